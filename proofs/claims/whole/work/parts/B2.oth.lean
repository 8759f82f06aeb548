/-! LinkTimesModel: other ways -/
/-- the first j departures of the way don't run any more -/
def drI (R0 R : mF) (x : mF) (f : Int) (j : Nat) : Prop := ∀ y, (∃ i : Nat, i < j ∧ y = 25 + 8 * itr x i f + 6 ∧ R y = 0) ∨ ((∀ i : Nat, i < j → y ≠ 25 + 8 * itr x i f + 6) ∧ R y = R0 y)
theorem drI_r {R0 R : mF} {M : mN} (hV : NV M) {l x : mF} {f : Int} (hR : rT R0 M) (hd : ∀ i : Nat, (i : Int) < l f → 0 ≤ itr x i f) (hI : drI R0 R x f (l f).toNat) : rT R (dropW M l x f) := by
  have hS := hV.2.1
  have same : ∀ y, (∀ i : Nat, (i : Int) < l f → y ≠ 25 + 8 * itr x i f + 6) → R y = R0 y := fun y hy => by
    rcases hI y with ⟨i, i0, z, -⟩ | ⟨-, z⟩
    · exact absurd z (hy i (by omega))
    · exact z
  obtain ⟨a1, a2, a3, a4⟩ := hR
  refine ⟨?_, ?_, fun d hdp => ?_, fun s s0 s1 => ?_⟩
  · rw [same 4 (fun i i0 => by have := hd i i0; omega)]; exact a1
  · rw [same 1 (fun i i0 => by have := hd i i0; omega)]; exact a2
  · have z := a3 d hdp
    have d0 := hdp.1
    rw [same (25 + 8 * d + 3) (fun i i0 => by omega), same (25 + 8 * d + 4) (fun i i0 => by omega), same (25 + 8 * d + 1) (fun i i0 => by omega), same (25 + 8 * d + 2) (fun i i0 => by omega), same (25 + 8 * d + 0) (fun i i0 => by omega), same (25 + 8 * d + 5) (fun i i0 => by omega)]
    refine ⟨z.1, z.2.1, z.2.2.1, z.2.2.2.1, z.2.2.2.2.1, ?_⟩
    rcases dropW_r (N := M) (l := l) (x := x) (f := f) (y := d) with ⟨⟨i, i1, i2⟩, e⟩ | ⟨n, e⟩
    · rw [e]
      rcases hI (25 + 8 * d + 6) with ⟨j, -, -, w⟩ | ⟨w, -⟩
      · exact w
      · exact absurd (by rw [i2]) (w i (by omega))
    · rw [e, same (25 + 8 * d + 6) (fun i i0 y => n ⟨i, i0, by omega⟩)]
      exact z.2.2.2.2.2
  · have s1' : s < nS M := s1
    rw [same (5 + s) (fun i i0 => by have := hd i i0; omega), same (15 + s) (fun i i0 => by have := hd i i0; omega)]
    exact a4 s s0 s1
set_option maxRecDepth 100000 in
set_option maxHeartbeats 1000000 in
theorem Mo_othI (M : mN) (a b t f : Int) (X : mX) (h0 : mH) (r : mR) (hM : isM h0 M) (hB : Bst M a b t 9999 (h0 73) (h0 74) (h0 75) (h0 76) f) (hf : f ≠ -1) (hl : h0 75 f ≤ 120) (K : ∀ h2, fr [66] h0 h2 → isM h2 (dropW M (h0 75) (h0 76) f) → (∀ x, x < 0 ∨ 985 ≤ x → h2 66 x = h0 66 x) → WP (true, rm 9) m_Mo_laysOthers X 81 [some (vR 64), some (vI a), some (vI b), some (vI t), some (vI (-1))] [] h2 r (0, 0)) : ∀ (m : Nat) (j : Nat) (h1 : mH), (h0 75 f - j).toNat = m → (j : Int) ≤ h0 75 f → fr [66] h0 h1 → drI (h0 66) (h1 66) (h0 76) f j → WP (true, rm 9) m_Mo_laysOthers X 50 [some (vR 64), some (vI a), some (vI b), some (vI t), some (vI (itr (h0 76) j f))] [] h1 r (0, 0) := by
  intro m
  induction m using Nat.strongRecOn with
  | ind m ih =>
    intro j h1 hN j1 hfr hI
    have hV := hM.1
    have hn := hV.1
    have hc := hB.fc hf
    have hk : (j : Int) < h0 75 f → (0 ≤ itr (h0 76) j f ∧ itr (h0 76) j f < nN M) := fun z => (Lab.it hV hB.2.1 hB.1 hc.1 hc.2.1 hc.2.2.2.2 j z).1
    have he : (j : Int) = h0 75 f → itr (h0 76) j f = -1 := fun z => Lab.ie hV hB.2.1 hB.1 hc.1 hc.2.1 hc.2.2.2.2 j z
    have hlt : itr (h0 76) j f ≠ -1 → (j : Int) < h0 75 f := fun z => by
      by_cases y : (j : Int) = h0 75 f
      · exact absurd (he y) z
      · omega
    have e76 : h1 76 (itr (h0 76) j f) = itr (h0 76) (j + 1) f := by rw [hfr.at 76 _ (by decide)]; rfl
    refine wq_iload (i := 4) (q := 52) rfl rfl rfl ?_
    refine wq_iconst (n := -1) (q := 53) rfl rfl rfl ?_
    refine wq_icmp_eq (tgt := 81) (q := 56) rfl rfl rfl (fun c53 => ?_) (fun c53 => ?_)
    · skip
      have ej : (j : Int) = h0 75 f := by
        by_cases y : (j : Int) < h0 75 f
        · have := hk y; omega
        · omega
      rw [c53]
      refine K h1 hfr ⟨dropW_V hV _ _ _, drI_r hV hM.2 (fun i i0 => (Lab.it hV hB.2.1 hB.1 hc.1 hc.2.1 hc.2.2.2.2 i i0).1.1) (by rw [← ej]; exact hI)⟩ (fun x hx => ?_)
      rcases hI x with ⟨i, i0, z, -⟩ | ⟨-, z⟩
      · have := (Lab.it hV hB.2.1 hB.1 hc.1 hc.2.1 hc.2.2.2.2 i (by omega)).1
        have q0 := this.1
        have q1 := this.2
        omega
      · exact z
    · skip
      refine wq_aload_n (kk := 0) (q := 57) rfl rfl rfl ?_
      refine wq_getF (q := 60) f_Mo_17 rfl rfl (Nat.le_of_ble_eq_true rfl) rfl rfl rfl ?_
      refine wq_iload (i := 4) (q := 62) rfl rfl rfl ?_
      refine wq_bipush (n := 6) (q := 64) rfl rfl rfl ?_
      refine wq_callS (q := 67) (m' := m_Mo_at) (R' := rm 1) (As := [_, _]) rfl rfl l_Mo_209 sm_Mo_at rfl (Nat.le_of_ble_eq_true rfl) (Nat.le_of_ble_eq_true rfl) (Nat.le_refl _) (Nat.le_refl _) (Nat.le_of_ble_eq_true rfl) (Mo_at_ok _ 6 h1 r (by have := hk (hlt c53); omega) (by omega)) rfl ?_
      rintro rv h1 r ⟨rfl, rfl, rfl⟩ -
      have hj := hlt c53
      have hkj := hk hj
      refine wq_iconst (n := 0) (q := 68) rfl rfl rfl ?_
      refine wq_iast (q := 69) rfl (Or.inl ⟨rfl, Nat.le_of_ble_eq_true rfl⟩) rfl rfl (by first | omega | (have := hk (hlt c53); omega)) (by first | omega | (have := hk (hlt c53); omega)) ?_
      refine wq_aload_n (kk := 0) (q := 70) rfl rfl rfl ?_
      refine wq_getF (q := 73) f_Mo_48 rfl rfl (Nat.le_of_ble_eq_true rfl) rfl rfl rfl ?_
      refine wq_iload (i := 4) (q := 75) rfl rfl rfl ?_
      refine wq_iald (q := 76) rfl (Or.inl ⟨rfl, Nat.le_of_ble_eq_true rfl⟩) rfl rfl (by first | omega | (have := hk (hlt c53); omega)) (by first | omega | (have := hk (hlt c53); omega)) ?_
      refine wq_istore (i := 4) (q := 78) rfl rfl (Nat.le_of_ble_eq_true rfl) rfl ?_
      refine wq_goto (tgt := 50) rfl rfl ?_
      rw [show hup h1 66 (25 + 8 * itr (h0 76) j f + 6) 0 76 (itr (h0 76) j f) = itr (h0 76) (j + 1) f by rw [hup_i (by decide)]; exact e76]
      refine ih _ (by omega) (j + 1) _ rfl (by omega) (hfr.up (by decide)) (fun y => ?_)
      by_cases z : y = 25 + 8 * itr (h0 76) j f + 6
      · subst z; rw [hup_s]; exact Or.inl ⟨j, by omega, rfl, rfl⟩
      · rw [hup_j z]
        rcases hI y with ⟨i, i0, w⟩ | ⟨w1, w2⟩
        · exact Or.inl ⟨i, by omega, w⟩
        · refine Or.inr ⟨fun i i0 => ?_, w2⟩
          by_cases ei : i = j
          · subst ei; exact z
          · exact w1 i (by omega)
abbrev otC : List Nat := [64, 66, 73, 74, 75, 76, 77, 84]
theorem f64_6 {S : List Int} {h h1 : mH} (f : f64 S qL h h1) (e : h1 66 = h 66) : f64 S qK h h1 := by
  refine ⟨fun c hc => ?_, f.2⟩
  by_cases z : c = 66
  · rw [z]; exact e
  · exact f.1 c (fun y => (List.mem_cons.mp y).elim z hc)
/-- the other ways are laid -/
def othD (N : mN) (a b t : Int) (h : mH) : Prop := ∃ (m : Nat) (M : mN) (e : mF), Os N a b t e m M ∧ NM M a b t ∧ h 64 38 = m ∧ m ≤ 120 ∧ ∀ j : Nat, j < m → h 84 j = e j
set_option maxRecDepth 100000 in
set_option maxHeartbeats 1000000 in
theorem Mo_othL (N : mN) (a b t : Int) (h0 h : mH) (r : mR) (hV : NV N) (hab : a ≠ b) (hb : 0 ≤ b ∧ b < nS N) (ht : isT t) (ha : cpd 66 0 68 0 h0 h) (Pp : mP) (K : ∀ h2, f64 [28, 38] otC h h2 → h2 66 = h0 66 → othD N a b t h2 → Pp none h2 r) : ∀ (m : Nat) (k f : Int) (h1 : mH) (e : mF) (M : mN), (120 - k).toNat = m → 0 ≤ k → k ≤ 120 → Os N a b t e k.toNat M → isM h1 M → goal M b h1 → Bst M a b t 9999 (h1 73) (h1 74) (h1 75) (h1 76) f → h1 64 38 = k → (∀ j : Nat, (j : Int) < k → h1 84 j = e j) → f64 [28, 38] otC h h1 → (∀ x, x < 0 ∨ 985 ≤ x → h1 66 x = h0 66 x) → WP (true, rm 9) m_Mo_laysOthers (rt m_Mo_laysOthers (rm 9) Pp) 18 [some (vR 64), some (vI a), some (vI b), some (vI t), some (vI f)] [] h1 r (0, 0) := by
  intro m
  induction m using Nat.strongRecOn with
  | ind m ih =>
    intro k f h1 e M hN k0 k1 hO hM hG hB e38 h84 hf eo
    have hv := Os.V hV hO
    have hVM := hM.1
    have hn := hV.1
    have hn2 := hVM.1
    have hkn : f ≠ -1 → k < nN N := fun z => by
      by_cases y : k < nN N
      · exact y
      · exact absurd (Os.stop hV hO (by omega) _ _ _ _ _ _ hB) z
    have hfd : f ≠ -1 → 0 ≤ f ∧ f < nN M := fun z => (hB.fc z).1
    refine wq_iload (i := 4) (q := 20) rfl rfl rfl ?_
    refine wq_iconst (n := -1) (q := 21) rfl rfl rfl ?_
    refine wq_icmp_eq (tgt := 93) (q := 24) rfl rfl rfl (fun c21 => ?_) (fun c21 => ?_)
    · skip
      refine wq_aload_n (kk := 0) (q := 94) rfl rfl rfl ?_
      refine wq_callV (q := 97) (m' := m_Mo_takesBack) (R' := rm 2) (As := []) rfl rfl l_Mo_348 vm_Mo_takesBack rfl rfl rfl (Or.inl ⟨rfl, Nat.le_of_ble_eq_true rfl⟩) (Nat.le_of_ble_eq_true rfl) (Nat.le_of_ble_eq_true rfl) (Nat.le_refl _) (Nat.le_refl _) (Nat.le_of_ble_eq_true rfl) (Mo_takesBack_ok h1 r) rfl ?_
      rintro rv h2 r ⟨rfl, rfl, hc⟩ -
      refine wq_vret rfl rfl (Nat.le_refl _) (Nat.le_refl _) (K _ (hf.tr (S' := []) (C' := [66]) ⟨hc.1, fun j _ => hc.1.at 64 j (by decide)⟩ (by decide) (by decide)) (cpd_back ha (hf.1 68 (by decide)) eo hc) ⟨k.toNat, M, e, hO, NM.of hVM hB (by omega), ?_, by omega, fun j hj => ?_⟩)
      · rw [hc.1.at 64 38 (by decide), e38]; omega
      · rw [hc.1.at 84 j (by decide)]; exact h84 j (by omega)
    · skip
      refine wq_aload_n (kk := 0) (q := 25) rfl rfl rfl ?_
      refine wq_getF (q := 28) f_Mo_72 rfl rfl (Nat.le_of_ble_eq_true rfl) rfl rfl rfl ?_
      refine wq_aload_n (kk := 0) (q := 29) rfl rfl rfl ?_
      refine wq_getI (kz := 38) (q := 32) rfl f_Mo_345 rfl rfl (Or.inl ⟨rfl, Nat.le_of_ble_eq_true rfl⟩) rfl rfl ?_
      refine wq_aload_n (kk := 0) (q := 33) rfl rfl rfl ?_
      refine wq_getF (q := 36) f_Mo_39 rfl rfl (Nat.le_of_ble_eq_true rfl) rfl rfl rfl ?_
      refine wq_iload (i := 4) (q := 38) rfl rfl rfl ?_
      refine wq_iald (q := 39) rfl (Or.inl ⟨rfl, Nat.le_of_ble_eq_true rfl⟩) rfl rfl (by first | omega | (have := hfd (by omega); have := hkn (by omega); omega) | (simp [hup]; have := hkn (by omega); omega)) (by first | omega | (have := hfd (by omega); have := hkn (by omega); omega) | (simp [hup]; have := hkn (by omega); omega)) ?_
      refine wq_iast (q := 40) rfl (Or.inl ⟨rfl, Nat.le_of_ble_eq_true rfl⟩) rfl rfl (by first | omega | (have := hfd (by omega); have := hkn (by omega); omega) | (simp [hup]; have := hkn (by omega); omega)) (by first | omega | (have := hfd (by omega); have := hkn (by omega); omega) | (simp [hup]; have := hkn (by omega); omega)) ?_
      refine wq_aload_n (kk := 0) (q := 41) rfl rfl rfl ?_
      refine wq_dup (q := 42) rfl rfl rfl ?_
      refine wq_getI (kz := 38) (q := 45) rfl f_Mo_345 rfl rfl (Or.inl ⟨rfl, Nat.le_of_ble_eq_true rfl⟩) rfl rfl ?_
      refine wq_iconst (n := 1) (q := 46) rfl rfl rfl ?_
      refine wq_iadd (q := 47) rfl rfl (by first | omega | (have := hfd (by omega); have := hkn (by omega); omega) | (simp [hup]; have := hkn (by omega); omega)) (by first | omega | (have := hfd (by omega); have := hkn (by omega); omega) | (simp [hup]; have := hkn (by omega); omega)) ?_
      refine wq_putI (kz := 38) (q := 50) rfl f_Mo_345 rfl rfl rfl (Or.inl ⟨rfl, Nat.le_of_ble_eq_true rfl⟩) rfl rfl ?_
      have hcf := hB.fc c21
      have hkn' := hkn c21
      have lb1 := (hG.2.1 f hcf.1 hcf.2.1).resolve_left hcf.2.2.2.2
      rw [show hup h1 84 (h1 64 38) (h1 73 f) 64 38 = h1 64 38 from hup_i (by decide), e38]
      have f2 : f64 [28, 38] otC h (hup (hup h1 84 k (h1 73 f)) 64 38 (k + 1)) := (hf.uc (by decide) (by decide)).up (by decide) (by decide)
      have q : ∀ c, c ∈ [66, 73, 74, 75, 76, 77] → hup (hup h1 84 k (h1 73 f)) 64 38 (k + 1) c = h1 c := fun c hc => by
        funext j
        have h4 : c = 66 ∨ c = 73 ∨ c = 74 ∨ c = 75 ∨ c = 76 ∨ c = 77 := by simpa using hc
        rw [hup_i (by omega), hup_i (by omega)]
      have hM2 : isM (hup (hup h1 84 k (h1 73 f)) 64 38 (k + 1)) M := by
        unfold isM; rw [q 66 (by decide)]; exact hM
      refine Mo_othI M a b t f _ _ r hM2 (by rw [q 73 (by decide), q 74 (by decide), q 75 (by decide), q 76 (by decide)]; exact hB) c21 (by rw [q 75 (by decide)]; omega) (fun h2 g2 hM3 eo2 => ?_) _ 0 _ rfl (by rw [q 75 (by decide)]; show ((0 : Nat) : Int) ≤ _; omega) fr.rf (fun y => Or.inr ⟨fun i i0 => by omega, rfl⟩)
      rw [q 75 (by decide), q 76 (by decide)] at hM3
      have f3 : f64 [28, 38] otC h h2 := f2.tr (S' := []) (C' := [66]) ⟨g2, fun j _ => g2.at 64 j (by decide)⟩ (by decide) (by decide)
      refine wq_aload_n (kk := 0) (q := 82) rfl rfl rfl ?_
      refine wq_iload_n (kk := 1) (q := 83) rfl rfl rfl ?_
      refine wq_iload_n (kk := 2) (q := 84) rfl rfl rfl ?_
      refine wq_iload_n (kk := 3) (q := 85) rfl rfl rfl ?_
      refine wq_callV (q := 88) (m' := m_Mo_begins_) (R' := rm 8) (As := [_, _, _]) rfl rfl l_Mo_314 vm_Mo_begins_ rfl rfl rfl (Or.inl ⟨rfl, Nat.le_of_ble_eq_true rfl⟩) (Nat.le_of_ble_eq_true rfl) (Nat.le_of_ble_eq_true rfl) (Nat.le_refl _) (Nat.le_refl _) (Nat.le_of_ble_eq_true rfl) (Mo_begins_ok _ a b t h2 r hM3 (by show 0 ≤ b ∧ b < nS M; rw [hv.2.2]; exact hb) (by omega)) rfl ?_
      rintro rv h3 r ⟨rfl, g3, f', rfl, hc3⟩ -
      have f4 : f64 [28, 38] otC h h3 := f3.tr g3 (by decide) (by decide)
      have hM4 := isM_f hM3 g3.1 (by decide)
      obtain ⟨z, -⟩ | ⟨-, hG4, hB4⟩ := hc3
      · exact absurd z hab
      refine wq_istore (i := 4) (q := 90) rfl rfl (Nat.le_of_ble_eq_true rfl) rfl ?_
      refine wq_goto (tgt := 18) rfl rfl ?_
      refine ih _ (by omega) (k + 1) f' h3 _ _ rfl (by omega) (by omega) (hO.step k0 hB c21) hM4 hG4 hB4 ?_ (fun j hj => ?_) f4 (fun x hx => ?_)
      · rw [g3.2 38 (by decide), g2.at 64 38 (by decide), hup_s]
      · rw [g3.1.at 84 j (by decide), g2.at 84 j (by decide), hup_i (by decide)]
        show _ = if (j : Int) = k then _ else _
        by_cases ej : (j : Int) = k
        · rw [if_pos ej, ej, hup_s]
        · rw [if_neg ej, hup_j ej]; exact h84 j (by omega)
      · rw [g3.1.at 66 x (by decide), eo2 x hx, q 66 (by decide)]; exact eo x hx
set_option maxRecDepth 100000 in
set_option maxHeartbeats 1000000 in
theorem Mo_laysOthers_ok (N : mN) (a b t : Int) (h : mH) (r : mR) (hM : isM h N) (hab : a ≠ b) (hb : 0 ≤ b ∧ b < nS N) (ht : isT t) : Meets true (rm 9) m_Mo_laysOthers [vR 64, vI a, vI b, vI t] h r (fun rv h2 r2 => rv = none ∧ r2 = r ∧ f64 [28, 38] qK h h2 ∧ othD N a b t h2) := by
  refine ⟨ok_Mo_laysOthers, Nat.le_of_ble_eq_true rfl, ?_⟩
  refine wq_aload_n (kk := 0) (q := 1) rfl rfl rfl ?_
  refine wq_callV (q := 4) (m' := m_Mo_laysAside) (R' := rm 2) (As := []) rfl rfl l_Mo_342 vm_Mo_laysAside rfl rfl rfl (Or.inl ⟨rfl, Nat.le_of_ble_eq_true rfl⟩) (Nat.le_of_ble_eq_true rfl) (Nat.le_of_ble_eq_true rfl) (Nat.le_refl _) (Nat.le_refl _) (Nat.le_of_ble_eq_true rfl) (Mo_laysAside_ok h r) rfl ?_
  rintro rv h1 r ⟨rfl, rfl, hc⟩ -
  have hM1 : isM (hup h1 64 38 0) N := isM_f hM (S := [64, 68]) ((hc.1.mono (by decide)).up (by decide)) (by decide)
  refine wq_aload_n (kk := 0) (q := 5) rfl rfl rfl ?_
  refine wq_iconst (n := 0) (q := 6) rfl rfl rfl ?_
  refine wq_putI (kz := 38) (q := 9) rfl f_Mo_345 rfl rfl rfl (Or.inl ⟨rfl, Nat.le_of_ble_eq_true rfl⟩) rfl rfl ?_
  refine wq_aload_n (kk := 0) (q := 10) rfl rfl rfl ?_
  refine wq_iload_n (kk := 1) (q := 11) rfl rfl rfl ?_
  refine wq_iload_n (kk := 2) (q := 12) rfl rfl rfl ?_
  refine wq_iload_n (kk := 3) (q := 13) rfl rfl rfl ?_
  refine wq_callV (q := 16) (m' := m_Mo_begins_) (R' := rm 8) (As := [_, _, _]) rfl rfl l_Mo_314 vm_Mo_begins_ rfl rfl rfl (Or.inl ⟨rfl, Nat.le_of_ble_eq_true rfl⟩) (Nat.le_of_ble_eq_true rfl) (Nat.le_of_ble_eq_true rfl) (Nat.le_refl _) (Nat.le_refl _) (Nat.le_of_ble_eq_true rfl) (Mo_begins_ok N a b t _ r hM1 hb (by omega)) rfl ?_
  rintro rv h2 r ⟨rfl, f2, f, rfl, hc2⟩ -
  have hM2 := isM_f hM1 f2.1 (by decide)
  obtain ⟨z, -⟩ | ⟨-, hG, hB⟩ := hc2
  · exact absurd z hab
  have f3 : f64 [28, 38] otC h1 h2 := ((f64.rf (S := [28, 38]) (C := otC) (h := h1)).up (k := 38) (v := 0) (by decide) (by decide)).tr f2 (by decide) (by decide)
  refine wq_istore (i := 4) (q := 18) rfl rfl (Nat.le_of_ble_eq_true rfl) rfl ?_
  refine Mo_othL N a b t h h1 r hM.1 hab hb ht hc _ (fun h3 f4 e66 hO => ⟨rfl, rfl, f64_6 ?_ e66, hO⟩) _ 0 f h2 (fun _ => 0) N rfl (by omega) (by omega) rfl hM2 hG hB (by rw [f2.2 38 (by decide), hup_s]) (fun j hj => by omega) f3 (fun x _ => by rw [f2.1.at 66 x (by decide), hup_i (by decide), hc.1.at 66 x (by decide)])
  exact ((f64.rf (S := [28, 38]) (C := qL) (h := h)).tr (S' := []) (C' := [68]) ⟨hc.1, fun j _ => hc.1.at 64 j (by decide)⟩ (by decide) (by decide)).tr f4 (by decide) (by decide)
set_option maxRecDepth 100000 in
set_option maxHeartbeats 1000000 in
theorem Mo_others_ok (a b t : Int) (N : mN) (h : mH) (r : mR) (hI : mI h N) : Meets true (rm 10) m_Mo_others [vR 64, vI a, vI b, vI t] h r (rqQ h r (Ans (kX (nS N) a b (bI (isT t))) (fun v tr => tr = 0 ∧ Oq N a b t v))) := by
  refine ⟨ok_Mo_others, Nat.le_of_ble_eq_true rfl, ?_⟩
  refine wq_aload_n (kk := 0) (q := 1) rfl rfl rfl ?_
  refine wq_aload_n (kk := 0) (q := 2) rfl rfl rfl ?_
  refine wq_iload_n (kk := 1) (q := 3) rfl rfl rfl ?_
  refine wq_iload_n (kk := 2) (q := 4) rfl rfl rfl ?_
  refine wq_callV (q := 7) (m' := m_Mo_areUnlike) (R' := rm 3) (As := [_, _]) rfl rfl l_Mo_351 vm_Mo_areUnlike rfl rfl rfl (Or.inl ⟨rfl, Nat.le_of_ble_eq_true rfl⟩) (Nat.le_of_ble_eq_true rfl) (Nat.le_of_ble_eq_true rfl) (Nat.le_refl _) (Nat.le_refl _) (Nat.le_of_ble_eq_true rfl) (Mo_areUnlike_ok a b N h r hI) rfl ?_
  rintro rv h r ⟨rfl, rfl, rfl⟩ -
  refine wq_iload_n (kk := 3) (q := 8) rfl rfl rfl ?_
  refine wq_iconst (n := 0) (q := 9) rfl rfl rfl ?_
  refine wq_sipush (n := 1999) (q := 12) rfl rfl rfl ?_
  refine wq_callS (q := 15) (m' := m_Mo_in) (R' := rm 1) (As := [_, _, _]) rfl rfl l_Mo_107 sm_Mo_in rfl (Nat.le_of_ble_eq_true rfl) (Nat.le_of_ble_eq_true rfl) (Nat.le_refl _) (Nat.le_refl _) (Nat.le_of_ble_eq_true rfl) (Mo_in_ok _ _ _ h r) rfl ?_
  rintro rv h r ⟨rfl, rfl, rfl⟩ -
  refine wq_callS (q := 18) (m' := m_Mo_unless_) (R' := rm 1) (As := [_, _]) rfl rfl l_Mo_304 sm_Mo_unless_ rfl (Nat.le_of_ble_eq_true rfl) (Nat.le_of_ble_eq_true rfl) (Nat.le_refl _) (Nat.le_refl _) (Nat.le_of_ble_eq_true rfl) (Mo_unless2_ok _ _ h r) rfl ?_
  rintro rv h r ⟨rfl, rfl, rfl⟩ -
  have ek : (if bI (kU (nS N) a b) = 0 then 1 else if bI (0 ≤ t ∧ t ≤ 1999) = 0 then 2 else 0) = kX (nS N) a b (bI (isT t)) := by
    unfold kX
    by_cases w : kU (nS N) a b
    · rw [bI_t w, if_neg (show ¬ (1 : Int) = 0 by decide), if_pos w]
    · rw [bI_f w, if_pos rfl, if_neg w]
  rw [ek]
  generalize hk : kX (nS N) a b (bI (isT t)) = k
  refine wq_callV (q := 21) (m' := m_Mo_isRefused) (R' := rm 1) (As := [_]) rfl rfl l_Mo_228 vm_Mo_isRefused rfl rfl rfl (Or.inl ⟨rfl, Nat.le_of_ble_eq_true rfl⟩) (Nat.le_of_ble_eq_true rfl) (Nat.le_of_ble_eq_true rfl) (Nat.le_refl _) (Nat.le_refl _) (Nat.le_of_ble_eq_true rfl) (Mo_isRefused_ok k h r) rfl ?_
  rintro rv h1 r ⟨rfl, rfl, rfl⟩ -
  have f1 := x_ref_f (S := qF) (C := qK) (h := h) (k := k) (by decide) (by decide) (by decide) (by decide)
  have I1 := mI_f hI f1 (by decide) (by decide)
  refine wq_cif_eq (tgt := 26) (q := 24) rfl rfl rfl (fun c21 => ?_) (fun c21 => ?_)
  · skip
    have k0 : k = 0 := by simpa using c21
    subst k0
    have hab := kX_0 hk
    have ht := bI_ne hab.2
    refine wq_aload_n (kk := 0) (q := 27) rfl rfl rfl ?_
    refine wq_iload_n (kk := 1) (q := 28) rfl rfl rfl ?_
    refine wq_iload_n (kk := 2) (q := 29) rfl rfl rfl ?_
    refine wq_iload_n (kk := 3) (q := 30) rfl rfl rfl ?_
    refine wq_callV (q := 33) (m' := m_Mo_laysOthers) (R' := rm 9) (As := [_, _, _]) rfl rfl l_Mo_354 vm_Mo_laysOthers rfl rfl rfl (Or.inl ⟨rfl, Nat.le_of_ble_eq_true rfl⟩) (Nat.le_of_ble_eq_true rfl) (Nat.le_of_ble_eq_true rfl) (Nat.le_refl _) (Nat.le_refl _) (Nat.le_of_ble_eq_true rfl) (Mo_laysOthers_ok N a b t _ r I1.1 hab.1.1 hab.1.2.2 ht) rfl ?_
    rintro rv h2 r ⟨rfl, rfl, f2, hO⟩ -
    have f3 := f1.tr f2 (by decide) (fun _ y => y)
    have e1 : h2 64 1 = 0 := by rw [f2.2 1 (by decide)]; exact x_ref_1
    obtain ⟨m, M, e, hO1, hO2, hO3, hO4, hO5⟩ := hO
    refine wq_aload_n (kk := 0) (q := 34) rfl rfl rfl ?_
    refine wq_getI (kz := 38) (q := 37) rfl f_Mo_345 rfl rfl (Or.inl ⟨rfl, Nat.le_of_ble_eq_true rfl⟩) rfl rfl ?_
    exact wq_iret rfl rfl (Nat.le_refl _) (Nat.le_refl _) ⟨_, rfl, rfl, Or.inr ⟨rfl, e1, m, M, e, hO1, hO2, hO3⟩, by omega, f3⟩
  · skip
    refine wq_iconst (n := -1) (q := 25) rfl rfl rfl ?_
    exact wq_iret rfl rfl (Nat.le_refl _) (Nat.le_refl _) ⟨_, rfl, rfl, Or.inl ⟨c21, rfl, x_ref_1⟩, by rw [x_ref_1]; have := kX_r (n := nS N) (a := a) (b := b) (g := bI (isT t)); omega, f1⟩
set_option maxRecDepth 100000 in
set_option maxHeartbeats 1000000 in
theorem Mo_other_ok (a b t i : Int) (N : mN) (h : mH) (r : mR) (hI : mI h N) : Meets true (rm 10) m_Mo_other [vR 64, vI a, vI b, vI t, vI i] h r (rqQ h r (Ans (kX (nS N) a b (bI (isT t))) (OtR N a b t i))) := by
  refine ⟨ok_Mo_other, Nat.le_of_ble_eq_true rfl, ?_⟩
  refine wq_aload_n (kk := 0) (q := 1) rfl rfl rfl ?_
  refine wq_aload_n (kk := 0) (q := 2) rfl rfl rfl ?_
  refine wq_iload_n (kk := 1) (q := 3) rfl rfl rfl ?_
  refine wq_iload_n (kk := 2) (q := 4) rfl rfl rfl ?_
  refine wq_callV (q := 7) (m' := m_Mo_areUnlike) (R' := rm 3) (As := [_, _]) rfl rfl l_Mo_351 vm_Mo_areUnlike rfl rfl rfl (Or.inl ⟨rfl, Nat.le_of_ble_eq_true rfl⟩) (Nat.le_of_ble_eq_true rfl) (Nat.le_of_ble_eq_true rfl) (Nat.le_refl _) (Nat.le_refl _) (Nat.le_of_ble_eq_true rfl) (Mo_areUnlike_ok a b N h r hI) rfl ?_
  rintro rv h r ⟨rfl, rfl, rfl⟩ -
  refine wq_iload_n (kk := 3) (q := 8) rfl rfl rfl ?_
  refine wq_iconst (n := 0) (q := 9) rfl rfl rfl ?_
  refine wq_sipush (n := 1999) (q := 12) rfl rfl rfl ?_
  refine wq_callS (q := 15) (m' := m_Mo_in) (R' := rm 1) (As := [_, _, _]) rfl rfl l_Mo_107 sm_Mo_in rfl (Nat.le_of_ble_eq_true rfl) (Nat.le_of_ble_eq_true rfl) (Nat.le_refl _) (Nat.le_refl _) (Nat.le_of_ble_eq_true rfl) (Mo_in_ok _ _ _ h r) rfl ?_
  rintro rv h r ⟨rfl, rfl, rfl⟩ -
  refine wq_callS (q := 18) (m' := m_Mo_unless_) (R' := rm 1) (As := [_, _]) rfl rfl l_Mo_304 sm_Mo_unless_ rfl (Nat.le_of_ble_eq_true rfl) (Nat.le_of_ble_eq_true rfl) (Nat.le_refl _) (Nat.le_refl _) (Nat.le_of_ble_eq_true rfl) (Mo_unless2_ok _ _ h r) rfl ?_
  rintro rv h r ⟨rfl, rfl, rfl⟩ -
  have ek : (if bI (kU (nS N) a b) = 0 then 1 else if bI (0 ≤ t ∧ t ≤ 1999) = 0 then 2 else 0) = kX (nS N) a b (bI (isT t)) := by
    unfold kX
    by_cases w : kU (nS N) a b
    · rw [bI_t w, if_neg (show ¬ (1 : Int) = 0 by decide), if_pos w]
    · rw [bI_f w, if_pos rfl, if_neg w]
  rw [ek]
  generalize hk : kX (nS N) a b (bI (isT t)) = k
  refine wq_callV (q := 21) (m' := m_Mo_isRefused) (R' := rm 1) (As := [_]) rfl rfl l_Mo_228 vm_Mo_isRefused rfl rfl rfl (Or.inl ⟨rfl, Nat.le_of_ble_eq_true rfl⟩) (Nat.le_of_ble_eq_true rfl) (Nat.le_of_ble_eq_true rfl) (Nat.le_refl _) (Nat.le_refl _) (Nat.le_of_ble_eq_true rfl) (Mo_isRefused_ok k h r) rfl ?_
  rintro rv h1 r ⟨rfl, rfl, rfl⟩ -
  have f1 := x_ref_f (S := qF) (C := qK) (h := h) (k := k) (by decide) (by decide) (by decide) (by decide)
  have I1 := mI_f hI f1 (by decide) (by decide)
  refine wq_cif_eq (tgt := 26) (q := 24) rfl rfl rfl (fun c21 => ?_) (fun c21 => ?_)
  · skip
    have k0 : k = 0 := by simpa using c21
    subst k0
    have hab := kX_0 hk
    have ht := bI_ne hab.2
    refine wq_aload_n (kk := 0) (q := 27) rfl rfl rfl ?_
    refine wq_iload_n (kk := 1) (q := 28) rfl rfl rfl ?_
    refine wq_iload_n (kk := 2) (q := 29) rfl rfl rfl ?_
    refine wq_iload_n (kk := 3) (q := 30) rfl rfl rfl ?_
    refine wq_callV (q := 33) (m' := m_Mo_laysOthers) (R' := rm 9) (As := [_, _, _]) rfl rfl l_Mo_354 vm_Mo_laysOthers rfl rfl rfl (Or.inl ⟨rfl, Nat.le_of_ble_eq_true rfl⟩) (Nat.le_of_ble_eq_true rfl) (Nat.le_of_ble_eq_true rfl) (Nat.le_refl _) (Nat.le_refl _) (Nat.le_of_ble_eq_true rfl) (Mo_laysOthers_ok N a b t _ r I1.1 hab.1.1 hab.1.2.2 ht) rfl ?_
    rintro rv h2 r ⟨rfl, rfl, f2, hO⟩ -
    have f3 := f1.tr f2 (by decide) (fun _ y => y)
    have e1 : h2 64 1 = 0 := by rw [f2.2 1 (by decide)]; exact x_ref_1
    obtain ⟨m, M, e, hO1, hO2, hO3, hO4, hO5⟩ := hO
    refine wq_iload (i := 4) (q := 35) rfl rfl rfl ?_
    refine wq_iconst (n := 0) (q := 36) rfl rfl rfl ?_
    refine wq_aload_n (kk := 0) (q := 37) rfl rfl rfl ?_
    refine wq_getI (kz := 38) (q := 40) rfl f_Mo_345 rfl rfl (Or.inl ⟨rfl, Nat.le_of_ble_eq_true rfl⟩) rfl rfl ?_
    refine wq_iconst (n := 1) (q := 41) rfl rfl rfl ?_
    refine wq_isub (q := 42) rfl rfl (by first | omega | (simp [hup]; omega)) (by first | omega | (simp [hup]; omega)) ?_
    refine wq_callS (q := 45) (m' := m_Mo_in) (R' := rm 1) (As := [_, _, _]) rfl rfl l_Mo_107 sm_Mo_in rfl (Nat.le_of_ble_eq_true rfl) (Nat.le_of_ble_eq_true rfl) (Nat.le_refl _) (Nat.le_refl _) (Nat.le_of_ble_eq_true rfl) (Mo_in_ok _ _ _ h2 r) rfl ?_
    rintro rv h2 r ⟨rfl, rfl, rfl⟩ -
    refine wq_cif_eq (tgt := 58) (q := 48) rfl rfl rfl (fun c45 => ?_) (fun c45 => ?_)
    · skip
      refine wq_aload_n (kk := 0) (q := 59) rfl rfl rfl ?_
      refine wq_iconst (n := 1) (q := 60) rfl rfl rfl ?_
      refine wq_callV (q := 63) (m' := m_Mo_no) (R' := rm 1) (As := [_]) rfl rfl l_Mo_237 vm_Mo_no rfl rfl rfl (Or.inl ⟨rfl, Nat.le_of_ble_eq_true rfl⟩) (Nat.le_of_ble_eq_true rfl) (Nat.le_of_ble_eq_true rfl) (Nat.le_refl _) (Nat.le_refl _) (Nat.le_of_ble_eq_true rfl) (Mo_no_ok 1 h2 r) rfl ?_
      rintro rv h3 r ⟨rfl, rfl, rfl⟩ -
      exact wq_iret rfl rfl (Nat.le_refl _) (Nat.le_refl _) ⟨_, rfl, rfl, Or.inr ⟨rfl, m, M, e, hO1, hO2, Or.inr ⟨by omega, rfl, hup_s⟩⟩, by rw [hup_s]; decide, f3.up (by decide) (by decide)⟩
    · skip
      refine wq_aload_n (kk := 0) (q := 49) rfl rfl rfl ?_
      refine wq_getF (q := 52) f_Mo_72 rfl rfl (Nat.le_of_ble_eq_true rfl) rfl rfl rfl ?_
      refine wq_iload (i := 4) (q := 54) rfl rfl rfl ?_
      refine wq_iald (q := 55) rfl (Or.inl ⟨rfl, Nat.le_of_ble_eq_true rfl⟩) rfl rfl (by first | omega | (simp [hup]; omega)) (by first | omega | (simp [hup]; omega)) ?_
      have e5 := hO5 i.toNat (by omega)
      rw [show ((i.toNat : Nat) : Int) = i by omega] at e5
      refine wq_goto (tgt := 63) rfl rfl ?_
      exact wq_iret rfl rfl (Nat.le_refl _) (Nat.le_refl _) ⟨_, rfl, rfl, Or.inr ⟨rfl, m, M, e, hO1, hO2, Or.inl ⟨by omega, e5, e1⟩⟩, by omega, f3⟩
  · skip
    refine wq_iconst (n := -1) (q := 25) rfl rfl rfl ?_
    exact wq_iret rfl rfl (Nat.le_refl _) (Nat.le_refl _) ⟨_, rfl, rfl, Or.inl ⟨c21, rfl, x_ref_1⟩, by rw [x_ref_1]; have := kX_r (n := nS N) (a := a) (b := b) (g := bI (isT t)); omega, f1⟩

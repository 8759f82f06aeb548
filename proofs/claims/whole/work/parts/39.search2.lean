set_option maxRecDepth 100000 in
set_option maxHeartbeats 4000000 in
theorem Se_aimFrom_ok (N : mN) (d b : Int) (h : mH) (r : mR) (hw : netW h r N) (hd : dp N d) (hh : bh N h d) (h44 : h 44 d = 1000000) (h47 : h 47 d = -1) : Meets true (rm 3) m_Se_aimFrom [vR 40, vR 31, vI d, vI b] h r (fun rv h1 r1 => rv = none ∧ r1 = r ∧ sd h h1 d ∧ LabAt N b 1000000 (h1 44) (h1 45) (h1 46) (h1 47) d) := by
  obtain ⟨hnde, hV, hN, hO, hG⟩ := id hw
  have hve := hV.2.2.1 d hd
  have hn := hV.1
  have hS := hV.2.1
  have hd0 := hd.1
  have hd1 := hd.2
  have hnd := hN.2.2.1 d hd
  have g1 := hG.1 (dst N d) (by omega) (by omega)
  refine ⟨ok_Se_aimFrom, Nat.le_of_ble_eq_true rfl, ?_⟩
  refine wq_aload_n (kk := 1) (q := 1) rfl rfl rfl ?_
  refine wq_getR (q := 4) f_Se_46 rfl rfl (Or.inl ⟨rfl, Nat.le_of_ble_eq_true rfl⟩) hnde rfl rfl ?_
  refine wq_getF (q := 7) f_Se_88 rfl rfl (Nat.le_of_ble_eq_true rfl) rfl rfl rfl ?_
  refine wq_iload_n (kk := 2) (q := 8) rfl rfl rfl ?_
  refine wq_iald (q := 9) rfl (Or.inl ⟨rfl, Nat.le_of_ble_eq_true rfl⟩) rfl rfl (by first | omega | (simp [hup]; omega)) (by first | omega | (simp [hup]; omega)) ?_
  rw [hnd.2.2.2.1]
  refine wq_istore (i := 4) (q := 11) rfl rfl (Nat.le_of_ble_eq_true rfl) rfl ?_
  refine wq_iload (i := 4) (q := 13) rfl rfl rfl ?_
  refine wq_iload_n (kk := 3) (q := 14) rfl rfl rfl ?_
  refine wq_icmp_ne (tgt := 44) (q := 17) rfl rfl rfl (fun c14 => ?_) (fun c14 => ?_)
  · skip
    refine wq_aload_n (kk := 1) (q := 45) rfl rfl rfl ?_
    refine wq_getF (q := 48) f_Se_94 rfl rfl (Nat.le_of_ble_eq_true rfl) rfl rfl rfl ?_
    refine wq_iload (i := 4) (q := 50) rfl rfl rfl ?_
    refine wq_iald (q := 51) rfl (Or.inl ⟨rfl, Nat.le_of_ble_eq_true rfl⟩) rfl rfl (by first | omega | (simp [hup]; omega)) (by first | omega | (simp [hup]; omega)) ?_
    refine wq_istore (i := 5) (q := 53) rfl rfl (Nat.le_of_ble_eq_true rfl) rfl ?_
    refine Se_aimA N d b h r hw hd c14 hh _ _ h _ rfl (Int.le_refl _) (by omega) sd.rf (Or.inl ⟨?_, h44, h47⟩)
    rintro f ⟨q, q0, q1, -⟩
    omega
  · skip
    refine wq_aload_n (kk := 0) (q := 18) rfl rfl rfl ?_
    refine wq_getF (q := 21) f_Se_22 rfl rfl (Nat.le_of_ble_eq_true rfl) rfl rfl rfl ?_
    refine wq_iload_n (kk := 2) (q := 22) rfl rfl rfl ?_
    refine wq_aload_n (kk := 1) (q := 23) rfl rfl rfl ?_
    refine wq_getF (q := 26) f_Se_91 rfl rfl (Nat.le_of_ble_eq_true rfl) rfl rfl rfl ?_
    refine wq_iload_n (kk := 2) (q := 27) rfl rfl rfl ?_
    refine wq_iald (q := 28) rfl (Or.inl ⟨rfl, Nat.le_of_ble_eq_true rfl⟩) rfl rfl (by first | omega | (simp [hup]; omega)) (by first | omega | (simp [hup]; omega)) ?_
    rw [hnd.2.1]
    refine wq_iast (q := 29) rfl (Or.inl ⟨rfl, Nat.le_of_ble_eq_true rfl⟩) rfl rfl (by first | omega | (simp [hup]; omega)) (by first | omega | (simp [hup]; omega)) ?_
    refine wq_aload_n (kk := 0) (q := 30) rfl rfl rfl ?_
    refine wq_getF (q := 33) f_Se_25 rfl rfl (Nat.le_of_ble_eq_true rfl) rfl rfl rfl ?_
    refine wq_iload_n (kk := 2) (q := 34) rfl rfl rfl ?_
    refine wq_iconst (n := 0) (q := 35) rfl rfl rfl ?_
    refine wq_iast (q := 36) rfl (Or.inl ⟨rfl, Nat.le_of_ble_eq_true rfl⟩) rfl rfl (by first | omega | (simp [hup]; omega)) (by first | omega | (simp [hup]; omega)) ?_
    refine wq_aload_n (kk := 0) (q := 37) rfl rfl rfl ?_
    refine wq_getF (q := 40) f_Se_28 rfl rfl (Nat.le_of_ble_eq_true rfl) rfl rfl rfl ?_
    refine wq_iload_n (kk := 2) (q := 41) rfl rfl rfl ?_
    refine wq_iconst (n := 1) (q := 42) rfl rfl rfl ?_
    refine wq_iast (q := 43) rfl (Or.inl ⟨rfl, Nat.le_of_ble_eq_true rfl⟩) rfl rfl (by first | omega | (simp [hup]; omega)) (by first | omega | (simp [hup]; omega)) ?_
    refine wq_vret rfl rfl (Nat.le_refl _) (Nat.le_refl _) ?_
    refine ⟨rfl, rfl, ((sd.rf.up (by decide)).up (by decide)).up (by decide), fun _ => ?_, fun z => absurd (by omega) z⟩
    simp [hup]
    exact h47
/-- what aim() leaves: labels, and their bounds -/
def aimed (N : mN) (b : Int) (h : mH) : Prop := Lab N b 1000000 (h 44) (h 45) (h 46) (h 47) ∧ ∀ d, dp N d → (rn N d ≠ 1 → h 44 d = 1000000) ∧ (h 44 d = 1000000 ∨ (0 ≤ h 44 d ∧ h 44 d ≤ 1700) ∧ 0 ≤ h 45 d ∧ h 45 d < h 46 d ∧ h 46 d ≤ 120)
def aiI (N : mN) (b : Int) (o : mF) (h : mH) (i : Int) : Prop := ∀ j, i < j → j < nN N → (rn N (o j) = 1 → LabAt N b 1000000 (h 44) (h 45) (h 46) (h 47) (o j)) ∧ (rn N (o j) ≠ 1 → h 44 (o j) = 1000000) ∧ (h 44 (o j) = 1000000 ∨ (0 ≤ h 44 (o j) ∧ h 44 (o j) ≤ 1700) ∧ 0 ≤ h 45 (o j) ∧ h 45 (o j) < h 46 (o j) ∧ h 46 (o j) ≤ nN N - j)
theorem ord_lt {N : mN} (hV : NV N) {o : mF} (hP : Pm o (nN N)) (hO : ∀ i j, 0 ≤ i → i < j → j < nN N → ol N (o i) (o j)) {i : Int} (i0 : 0 ≤ i) (i1 : i < nN N) {f : Int} (hf : dp N f) (hJ : J N (o i) f) : ∃ j, i < j ∧ j < nN N ∧ o j = f := by
  obtain ⟨j, j0, j1, rfl⟩ := hP.sur hf.1 hf.2
  refine ⟨j, ?_, j1, rfl⟩
  rcases (show i < j ∨ j ≤ i by omega) with z | z
  · exact z
  · exact absurd hJ (ride_old hV hP hO j0 z i1)
theorem aiI.step {N : mN} (hV : NV N) {b : Int} {o : mF} (hP : Pm o (nN N)) (hO : ∀ i j, 0 ≤ i → i < j → j < nN N → ol N (o i) (o j)) {h h1 : mH} {i : Int} (i0 : 0 ≤ i) (i1 : i < nN N) (hA : aiI N b o h i) (hs : ∀ a x, x ≠ o i → h1 a x = h a x) (h1' : rn N (o i) = 1 → LabAt N b 1000000 (h1 44) (h1 45) (h1 46) (h1 47) (o i)) (h2 : rn N (o i) ≠ 1 → h1 44 (o i) = 1000000) : aiI N b o h1 (i - 1) := by
  have old : ∀ j, i < j → j < nN N → o j ≠ o i := fun j a c => Ne.symm (hP.inj i0 a c)
  intro j j0 j1
  by_cases ej : j = i
  · subst ej
    refine ⟨h1', h2, ?_⟩
    by_cases hr : rn N (o j) = 1
    · have hL := h1' hr
      have hv := hV.2.2.1 (o j) (hP.1 j i0 i1)
      by_cases hb : dst N (o j) = b
      · obtain ⟨a1, a2, a3, -⟩ := hL.1 hb
        exact Or.inr ⟨by omega, by omega, by omega, by omega⟩
      · rcases hL.2 hb with ⟨-, w, -⟩ | ⟨f, -, w1, -, w3, w4, w5, -⟩
        · exact Or.inl w
        · obtain ⟨k, k0, k1, rfl⟩ := ord_lt hV hP hO i0 i1 w1.1 w1.2.2.1
          have hk := (hA k k0 k1).2.2
          have e44 := hs 44 (o k) (old k k0 k1)
          have e45 := hs 45 (o k) (old k k0 k1)
          have e46 := hs 46 (o k) (old k k0 k1)
          have hne := w1.2.2.2.2
          have ht := tn_b N (o j) (o k)
          refine Or.inr ⟨by omega, by omega, by omega, by omega⟩
    · exact Or.inl (h2 hr)
  · have hj := hA j (by omega) j1
    have hne := old j (by omega) j1
    refine ⟨fun hr => (hj.1 hr).congr ⟨hs 44 _ hne, hs 45 _ hne, hs 46 _ hne, hs 47 _ hne⟩ (fun f hf hJ => ?_), fun hr => by rw [hs 44 _ hne]; exact hj.2.1 hr, ?_⟩
    · obtain ⟨k, k0, k1, rfl⟩ := ord_lt hV hP hO (show 0 ≤ j by omega) j1 hf hJ
      have hk := old k (by omega) k1
      exact ⟨hs 44 _ hk, hs 45 _ hk, hs 46 _ hk⟩
    · rw [hs 44 _ hne, hs 45 _ hne, hs 46 _ hne]
      exact hj.2.2
abbrev aimQ (N : mN) (b : Int) (h : mH) (r : mR) : mP := fun rv h1 r1 => rv = none ∧ r1 = r ∧ fr seC h h1 ∧ aimed N b h1
set_option maxRecDepth 100000 in
set_option maxHeartbeats 4000000 in
theorem Se_aimL (N : mN) (b : Int) (h : mH) (r : mR) (hw : netW h r N) : ∀ (M : Nat) (i : Int) (h' : mH) (z : Option mV), (i + 1).toNat = M → -1 ≤ i → i < nN N → fr seC h h' → aiI N b (h 35) h' i → WP (true, rm 4) m_Se_aim (rt m_Se_aim (rm 4) (aimQ N b h r)) 7 [some (vR 40), some (vR 31), some (vI b), some (vI i), z] [] h' r (0, 0) := by
  intro M
  induction M using Nat.strongRecOn with
  | ind M ih =>
    intro i h' z hM i0 i1 hf hA
    obtain ⟨hnde, hV, hN, hO, hG⟩ := id hw
    have hn := hV.1
    have hw' : netW h' r N := hw.fr hf (by decide)
    have e35 : h' 35 i = h 35 i := hf.at 35 i (by decide)
    have ho := fun y : 0 ≤ i => hO.1.1 i y i1
    have er := fun y : 0 ≤ i => (hw'.2.2.1.2.2.1 _ (ho y)).2.2.2.2.2
    refine wq_iload_n (kk := 3) (q := 8) rfl rfl rfl ?_
    refine wq_if_lt (tgt := 60) (q := 11) rfl rfl rfl (fun c8 => ?_) (fun c8 => ?_)
    · skip
      have ei : i = -1 := by omega
      subst ei
      refine wq_vret rfl rfl (Nat.le_refl _) (Nat.le_refl _) ⟨rfl, rfl, hf, fun d hd hr => ?_, fun d hd => ?_⟩
      · obtain ⟨j, j0, j1, rfl⟩ := hO.1.sur hd.1 hd.2
        exact (hA j (by omega) j1).1 hr
      · obtain ⟨j, j0, j1, rfl⟩ := hO.1.sur hd.1 hd.2
        have := hA j (by omega) j1
        exact ⟨this.2.1, this.2.2.imp id (fun q => ⟨q.1, q.2.1, q.2.2.1, by omega⟩)⟩
    · skip
      refine wq_aload_n (kk := 1) (q := 12) rfl rfl rfl ?_
      refine wq_getF (q := 15) f_Se_76 rfl rfl (Nat.le_of_ble_eq_true rfl) rfl rfl rfl ?_
      refine wq_iload_n (kk := 3) (q := 16) rfl rfl rfl ?_
      refine wq_iald (q := 17) rfl (Or.inl ⟨rfl, Nat.le_of_ble_eq_true rfl⟩) rfl rfl (by first | omega | (have y := ho (by omega); have y1 := y.1; have y2 := y.2; omega)) (by first | omega | (have y := ho (by omega); have y1 := y.1; have y2 := y.2; omega)) ?_
      rw [e35]
      refine wq_istore (i := 4) (q := 19) rfl rfl (Nat.le_of_ble_eq_true rfl) rfl ?_
      refine wq_aload_n (kk := 0) (q := 20) rfl rfl rfl ?_
      refine wq_getF (q := 23) f_Se_22 rfl rfl (Nat.le_of_ble_eq_true rfl) rfl rfl rfl ?_
      refine wq_iload (i := 4) (q := 25) rfl rfl rfl ?_
      refine wq_ldc (n := 1000000) (q := 27) k_Se_79 rfl rfl rfl ?_
      refine wq_iast (q := 28) rfl (Or.inl ⟨rfl, Nat.le_of_ble_eq_true rfl⟩) rfl rfl (by first | omega | (have y := ho (by omega); have y1 := y.1; have y2 := y.2; omega)) (by first | omega | (have y := ho (by omega); have y1 := y.1; have y2 := y.2; omega)) ?_
      refine wq_aload_n (kk := 0) (q := 29) rfl rfl rfl ?_
      refine wq_getF (q := 32) f_Se_31 rfl rfl (Nat.le_of_ble_eq_true rfl) rfl rfl rfl ?_
      refine wq_iload (i := 4) (q := 34) rfl rfl rfl ?_
      refine wq_iconst (n := -1) (q := 35) rfl rfl rfl ?_
      refine wq_iast (q := 36) rfl (Or.inl ⟨rfl, Nat.le_of_ble_eq_true rfl⟩) rfl rfl (by first | omega | (have y := ho (by omega); have y1 := y.1; have y2 := y.2; omega)) (by first | omega | (have y := ho (by omega); have y1 := y.1; have y2 := y.2; omega)) ?_
      refine wq_aload_n (kk := 1) (q := 37) rfl rfl rfl ?_
      refine wq_getF (q := 40) f_Se_80 rfl rfl (Nat.le_of_ble_eq_true rfl) rfl rfl rfl ?_
      refine wq_iload (i := 4) (q := 42) rfl rfl rfl ?_
      refine wq_zald (q := 43) rfl (Or.inl ⟨rfl, Nat.le_of_ble_eq_true rfl⟩) rfl rfl (by first | omega | (have y := ho (by omega); have y1 := y.1; have y2 := y.2; omega)) (by first | omega | (have y := ho (by omega); have y1 := y.1; have y2 := y.2; omega)) ?_
      rw [show ∀ v w, hup (hup h' 44 (h 35 i) v) 47 (h 35 i) w 34 (h 35 i) = h' 34 (h 35 i) from fun v w => by rw [hup_i (by decide), hup_i (by decide)], er (by omega)]
      refine wq_if_eq (tgt := 54) (q := 46) rfl rfl rfl (fun c43 => ?_) (fun c43 => ?_)
      · skip
        refine wq_iinc (i := 3) (n := -1) (q := 57) rfl rfl rfl (Nat.le_of_ble_eq_true rfl) rfl (by first | omega | (have y := ho (by omega); have y1 := y.1; have y2 := y.2; omega)) (by first | omega | (have y := ho (by omega); have y1 := y.1; have y2 := y.2; omega)) ?_
        refine wq_goto (tgt := 7) rfl rfl ?_
        first
          | (refine ih _ ?_ (i - 1) h3 _ rfl (by omega) (by omega) ((((hf.up (by decide)).up (by decide))).trans hs3.1 (by decide)) (hA.step hV hO.1 hO.2 (by omega) i1 (fun a x hx => ?_) (fun _ => hL3) (fun q => absurd ?_ q))
             · omega
             · rw [hs3.2 a x hx, hup_j hx, hup_j hx]
             · have := (hV.2.2.1 _ (ho (by omega))).2.2.2.2
               omega)
          | (refine ih _ ?_ (i - 1) _ _ rfl (by omega) (by omega) ((hf.up (by decide)).up (by decide)) (hA.step hV hO.1 hO.2 (by omega) i1 (fun a x hx => ?_) (fun q => by omega) (fun q => by simp [hup]))
             · omega
             · rw [hup_j hx, hup_j hx])
      · skip
        refine wq_aload_n (kk := 0) (q := 47) rfl rfl rfl ?_
        refine wq_aload_n (kk := 1) (q := 48) rfl rfl rfl ?_
        refine wq_iload (i := 4) (q := 50) rfl rfl rfl ?_
        refine wq_iload_n (kk := 2) (q := 51) rfl rfl rfl ?_
        refine wq_callV (q := 54) (m' := m_Se_aimFrom) (R' := rm 3) (As := [_, _, _]) rfl rfl l_Se_84 vm_Se_aimFrom rfl rfl rfl (Or.inl ⟨rfl, Nat.le_of_ble_eq_true rfl⟩) (Nat.le_of_ble_eq_true rfl) (Nat.le_of_ble_eq_true rfl) (Nat.le_refl _) (Nat.le_refl _) (Nat.le_of_ble_eq_true rfl) (Se_aimFrom_ok N (h 35 i) b _ r (hw'.fr (S := seC) ((fr.rf.up (by decide)).up (by decide)) (by decide)) (ho (by omega)) (fun f hf1 hJ hfr => ?_) (by simp [hup]) (by simp [hup])) rfl ?_
        · obtain ⟨j, j0, j1, rfl⟩ := ord_lt hV hO.1 hO.2 (show 0 ≤ i by omega) i1 hf1 hJ
          have hne : h 35 j ≠ h 35 i := Ne.symm (hO.1.inj (by omega) j0 j1)
          have := hA j j0 j1
          simp [hup, hne]
          exact ⟨this.2.1, this.2.2.imp id (fun q => ⟨q.1, q.2.1, q.2.2.1, by omega⟩)⟩
        rintro rv h3 r3 ⟨rfl, rfl, hs3, hL3⟩ -
        refine wq_iinc (i := 3) (n := -1) (q := 57) rfl rfl rfl (Nat.le_of_ble_eq_true rfl) rfl (by first | omega | (have y := ho (by omega); have y1 := y.1; have y2 := y.2; omega)) (by first | omega | (have y := ho (by omega); have y1 := y.1; have y2 := y.2; omega)) ?_
        refine wq_goto (tgt := 7) rfl rfl ?_
        first
          | (refine ih _ ?_ (i - 1) h3 _ rfl (by omega) (by omega) ((((hf.up (by decide)).up (by decide))).trans hs3.1 (by decide)) (hA.step hV hO.1 hO.2 (by omega) i1 (fun a x hx => ?_) (fun _ => hL3) (fun q => absurd ?_ q))
             · omega
             · rw [hs3.2 a x hx, hup_j hx, hup_j hx]
             · have := (hV.2.2.1 _ (ho (by omega))).2.2.2.2
               omega)
          | (refine ih _ ?_ (i - 1) _ _ rfl (by omega) (by omega) ((hf.up (by decide)).up (by decide)) (hA.step hV hO.1 hO.2 (by omega) i1 (fun a x hx => ?_) (fun q => by omega) (fun q => by simp [hup]))
             · omega
             · rw [hup_j hx, hup_j hx])
set_option maxRecDepth 100000 in
theorem Se_aim_ok (N : mN) (b : Int) (h : mH) (r : mR) (hw : netW h r N) : Meets true (rm 4) m_Se_aim [vR 40, vR 31, vI b] h r (aimQ N b h r) := by
  have hn := hw.2.1.1
  have e := hw.2.2.1.1
  refine ⟨ok_Se_aim, Nat.le_of_ble_eq_true rfl, ?_⟩
  refine wq_aload_n (kk := 1) (q := 1) rfl rfl rfl ?_
  refine wq_getI (kz := 0) (q := 4) rfl f_Se_75 rfl rfl (Or.inl ⟨rfl, Nat.le_of_ble_eq_true rfl⟩) rfl rfl ?_
  refine wq_iconst (n := 1) (q := 5) rfl rfl rfl ?_
  refine wq_isub (q := 6) rfl rfl (by first | omega | (simp [hup]; omega)) (by first | omega | (simp [hup]; omega)) ?_
  refine wq_istore_n (kk := 3) (q := 7) rfl rfl (Nat.le_of_ble_eq_true rfl) rfl ?_
  exact Se_aimL N b h r hw _ (h 31 0 - 1) h _ rfl (by omega) (by omega) fr.rf (fun j j0 j1 => by omega)

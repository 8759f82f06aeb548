/-! LinkTimes: cell 0; what its calls share -/
abbrev qC : List Nat := [0, 31, 32, 33, 34, 35, 36, 37, 38, 39, 40, 41, 42, 43, 44, 45, 46, 47, 48, 49, 50, 51, 52, 53, 54, 55, 56, 57, 58, 59, 60, 61, 62, 63]
abbrev qS : List Nat := [32, 33, 34, 36, 37, 38, 39, 40, 41, 42, 43, 44, 45, 46, 47, 48, 49, 50, 51, 52, 53, 54, 55, 56, 57, 58, 59, 60, 61, 62, 63]
/-- what questions need, and keep -/
def IQ (h : mH) (r : mR) : Prop := DV h ∧ (0 ≤ h 31 0 ∧ h 31 0 ≤ 120) ∧ Pm (h 35) (h 31 0) ∧ r.1 0 2 = some 2 ∧ ∃ nw fw, isB nw fw r
def rQ (r r1 : mR) : Prop := r1.2 = r.2 ∧ ∀ i k, ¬ (i = 58 ∧ (k = 4 ∨ k = 5)) → ¬ (i = 31 ∧ k = 7) → r1.1 i k = r.1 i k
/-- what questions leave as it was -/
def qf (h : mH) (r : mR) (h1 : mH) (r1 : mR) : Prop := fr qC h h1 ∧ (∀ j, j ≠ 12 → h1 0 j = h 0 j) ∧ rQ r r1 ∧ IQ h1 r1
/-- the desk in force as a net -/
def dN (h : mH) (b : Int) : mN := (h 2 4, h 2 1, fun d => h 8 d + (if b = 0 then h 10 d else 0), fun d => h 8 d + (if b = 0 then h 10 d else 0) + h 9 d, h 6, h 7, h 5, fun d => if b = 0 then 1 - h 12 d else 1, h 3, h 4)
theorem dN_D (h : mH) (b : Int) : isD h b (dN h b) := ⟨rfl, rfl, fun d _ => ⟨rfl, rfl, rfl, rfl, rfl, rfl⟩, fun s _ _ => ⟨rfl, rfl⟩⟩
theorem dN_S (h : mH) (b : Int) : nS (dN h b) = h 2 1 := rfl
theorem dN_N (h : mH) (b : Int) : nN (dN h b) = h 2 4 := rfl
theorem dN_V {h : mH} (hD : DV h) (b : Int) : NV (dN h b) := by
  obtain ⟨a1, a2, a3, a4, -⟩ := hD
  refine ⟨a1, a2, fun d hd => ?_, a4⟩
  have z := a3 d hd.1 hd.2
  refine ⟨z.2.2.2.2.1, z.2.2.2.2.2.1, ?_, ?_, ?_⟩
  · show 0 ≤ h 8 d + (if b = 0 then h 10 d else 0) ∧ h 8 d + (if b = 0 then h 10 d else 0) ≤ 1500
    split <;> omega
  · show h 8 d + (if b = 0 then h 10 d else 0) < h 8 d + (if b = 0 then h 10 d else 0) + h 9 d ∧ h 8 d + (if b = 0 then h 10 d else 0) + h 9 d ≤ 1700
    split <;> omega
  · show (if b = 0 then 1 - h 12 d else 1) = 0 ∨ (if b = 0 then 1 - h 12 d else 1) = 1
    split <;> omega
theorem dN_fr {S : List Nat} {h h1 : mH} (f : fr S h h1) (hS : ∀ i ∈ [2, 3, 4, 5, 6, 7, 8, 9, 10, 12], i ∉ S) (b : Int) : dN h1 b = dN h b := by
  unfold dN
  rw [f 2 (hS _ (by decide)), f 3 (hS _ (by decide)), f 4 (hS _ (by decide)), f 5 (hS _ (by decide)), f 6 (hS _ (by decide)), f 7 (hS _ (by decide)), f 8 (hS _ (by decide)), f 9 (hS _ (by decide)), f 10 (hS _ (by decide)), f 12 (hS _ (by decide))]
theorem DV.fr {S : List Nat} {h h1 : mH} (hD : DV h) (f : fr S h h1) (hS : ∀ i ∈ [2, 3, 4, 5, 6, 7, 8, 9, 10, 12], i ∉ S) : DV h1 := by
  unfold DV
  rw [f 2 (hS _ (by decide)), f 3 (hS _ (by decide)), f 4 (hS _ (by decide)), f 5 (hS _ (by decide)), f 6 (hS _ (by decide)), f 7 (hS _ (by decide)), f 8 (hS _ (by decide)), f 9 (hS _ (by decide)), f 10 (hS _ (by decide)), f 12 (hS _ (by decide))]
  exact hD
theorem rQ.rf {r : mR} : rQ r r := ⟨rfl, fun _ _ _ _ => rfl⟩
theorem rQ.n {r r1 : mR} (h : rQ r r1) : rQ r (rN r1) := ⟨h.1, fun i k a b => by rw [rup_o b]; exact h.2 i k a b⟩
theorem rQ.e {r r1 r2 : mR} (h : rQ r r1) (h2 : rEq r1 r2) : rQ r r2 := ⟨h2.1.trans h.1, fun i k a b => (h2.2 i k a).trans (h.2 i k a b)⟩
section
variable {h : mH} {r : mR} {h1 : mH} {r1 : mR} {h2 : mH} {r2 : mR} {S : List Nat} {N : mN}
theorem qf.rf (hI : IQ h r) : qf h r h r := ⟨fr.rf, fun _ _ => rfl, rQ.rf, hI⟩
theorem IQ.fr (hI : IQ h r) (f : fr S h h1) (hS : ∀ i ∈ [2, 3, 4, 5, 6, 7, 8, 9, 10, 12, 31, 35], i ∉ S) : IQ h1 r := by
  obtain ⟨a, b, c, d⟩ := hI
  refine ⟨a.fr f (fun i hi => hS i (by simp at hi ⊢; omega)), ?_, ?_, d⟩
  · rw [f 31 (hS _ (by decide))]; exact b
  · rw [f 31 (hS _ (by decide)), f 35 (hS _ (by decide))]; exact c
theorem qf.put (q : qf h r h1 r1) (v : Int) : qf h r (hup h1 0 12 v) r1 := ⟨q.1.up (by decide), fun j hj => by rw [hup_j hj]; exact q.2.1 j hj, q.2.2.1, q.2.2.2.fr (S := [0]) (fr.rf.up (by decide)) (by decide)⟩
theorem qf.scr (q : qf h r h1 r1) (f : fr S h1 h2) (hS : ∀ i ∈ S, i ∈ qS) : qf h r h2 r1 := by
  have f' : fr qS h1 h2 := f.mono hS
  exact ⟨q.1.trans f' (by decide), fun j hj => by rw [f'.at 0 j (by decide)]; exact q.2.1 j hj, q.2.2.1, q.2.2.2.fr f' (by decide)⟩
theorem rQ.tr {r r1 r2 : mR} (h : rQ r r1) (h2 : rQ r1 r2) : rQ r r2 := ⟨h2.1.trans h.1, fun i k a b => (h2.2 i k a b).trans (h.2 i k a b)⟩
theorem qf.tr (q : qf h r h1 r1) (q2 : qf h1 r1 h2 r2) : qf h r h2 r2 := ⟨q.1.trans q2.1 (fun _ z => z), fun j hj => (q2.2.1 j hj).trans (q.2.1 j hj), q.2.2.1.tr q2.2.2.1, q2.2.2.2⟩
theorem qf.dN (q : qf h r h1 r1) (b : Int) : dN h1 b = dN h b := dN_fr q.1 (by decide) b
theorem qf.DV (q : qf h r h1 r1) : DV h1 := q.2.2.2.1
theorem qf.cur (q : qf h r h1 r1) : r1.1 0 2 = some 2 := q.2.2.2.2.2.2.1
theorem qf.at2 (q : qf h r h1 r1) (j : Int) : h1 2 j = h 2 j := q.1.at 2 j (by decide)
theorem isB.rN {nw fw : Nat} (hB : isB nw fw r) : isB nw fw (rN r) := ⟨hB.1, by rw [rup_o (by omega)]; exact hB.2.1, by rw [rup_o (by omega)]; exact hB.2.2⟩
theorem qf.load (q : qf h r h1 r1) (hl : loaded h1 h2 N) (hV : NV N) : qf h r h2 (rN r1) ∧ netW h2 (rN r1) N := by
  obtain ⟨f, a, b, c⟩ := hl
  refine ⟨⟨q.1.trans f (by decide), fun j hj => by rw [f.at 0 j (by decide)]; exact q.2.1 j hj, q.2.2.1.n, q.2.2.2.1.fr f (by decide), ?_, ?_, ?_, ?_⟩, rN_d _, hV, a, b, c⟩
  · rw [a.1]; exact hV.1
  · rw [a.1]; exact b.1
  · rw [rup_o (by omega)]; exact q.cur
  · obtain ⟨nw, fw, hB⟩ := q.2.2.2.2.2.2.2
    exact ⟨nw, fw, hB.rN⟩
abbrev lwQ (h : mH) (r : mR) (N : mN) : mP := fun rv h2 r2 => rv = none ∧ qf h r h2 r2 ∧ netW h2 r2 N
theorem Lt_load (q : qf h r h1 r1) : Meets true (rm 4) m_Ne_load [vR 31, vR 2] h1 r1 (lwQ h r (dN h 0)) := by
  have hV := dN_V q.DV 0
  refine (Ne_load_ok (dN h1 0) h1 r1 hV (dN_D h1 0) q.DV q.2.2.2.2.1 q.2.2.2.2.2.1).mono ?_
  rintro rv h2 r2 ⟨rfl, rfl, hl⟩
  rw [q.dN] at hl hV
  exact ⟨rfl, q.load hl hV⟩
theorem Lt_loadT (q : qf h r h1 r1) : Meets true (rm 4) m_Ne_loadAsTold [vR 31, vR 2] h1 r1 (lwQ h r (dN h 1)) := by
  have hV := dN_V q.DV 1
  refine (Ne_loadAsTold_ok (dN h1 1) h1 r1 hV (dN_D h1 1) q.DV q.2.2.2.2.1 q.2.2.2.2.2.1).mono ?_
  rintro rv h2 r2 ⟨rfl, rfl, hl⟩
  rw [q.dN] at hl hV
  exact ⟨rfl, q.load hl hV⟩
end
set_option maxRecDepth 100000 in
theorem Lt_refuse_ok (k : Int) (h : mH) (r : mR) : Meets true (rm 1) m_Lt_refuse [vR 0, vI k] h r (pI (-1) (hup h 0 12 k) r) := by
  refine ⟨ok_Lt_refuse, Nat.le_of_ble_eq_true rfl, ?_⟩
  refine wq_aload_n (kk := 0) (q := 1) rfl rfl rfl ?_
  refine wq_iload_n (kk := 1) (q := 2) rfl rfl rfl ?_
  refine wq_putI (kz := 12) (q := 5) rfl f_Lt_116 rfl rfl rfl (Or.inl ⟨rfl, Nat.le_of_ble_eq_true rfl⟩) rfl rfl ?_
  refine wq_iconst (n := -1) (q := 6) rfl rfl rfl ?_
  refine wq_iret rfl rfl (Nat.le_refl _) (Nat.le_refl _) ?_
  first | exact ⟨rfl, rfl, rfl⟩ | exact pB_t (by omega) | exact pB_f (by omega) | exact pC_t (by omega) | exact pC_f (by omega) | (exfalso; omega)
set_option maxRecDepth 100000 in
theorem Lt_isRefused_ok (k : Int) (h : mH) (r : mR) : Meets true (rm 1) m_Lt_isRefused [vR 0, vI k] h r (pI (bI (k ≠ 0)) (hup h 0 12 k) r) := by
  refine ⟨ok_Lt_isRefused, Nat.le_of_ble_eq_true rfl, ?_⟩
  refine wq_aload_n (kk := 0) (q := 1) rfl rfl rfl ?_
  refine wq_iload_n (kk := 1) (q := 2) rfl rfl rfl ?_
  refine wq_putI (kz := 12) (q := 5) rfl f_Lt_116 rfl rfl rfl (Or.inl ⟨rfl, Nat.le_of_ble_eq_true rfl⟩) rfl rfl ?_
  refine wq_iload_n (kk := 1) (q := 6) rfl rfl rfl ?_
  refine wq_if_eq (tgt := 13) (q := 9) rfl rfl rfl (fun c6 => ?_) (fun c6 => ?_)
  · skip
    refine wq_iconst (n := 0) (q := 14) rfl rfl rfl ?_
    refine wq_zret rfl rfl (Nat.le_refl _) (Nat.le_refl _) (by omega) ?_
    first | exact ⟨rfl, rfl, rfl⟩ | exact pB_t (by omega) | exact pB_f (by omega) | exact pC_t (by omega) | exact pC_f (by omega) | (exfalso; omega)
  · skip
    refine wq_iconst (n := 1) (q := 10) rfl rfl rfl ?_
    refine wq_goto (tgt := 14) rfl rfl ?_
    refine wq_zret rfl rfl (Nat.le_refl _) (Nat.le_refl _) (by omega) ?_
    first | exact ⟨rfl, rfl, rfl⟩ | exact pB_t (by omega) | exact pB_f (by omega) | exact pC_t (by omega) | exact pC_f (by omega) | (exfalso; omega)
set_option maxRecDepth 100000 in
theorem Lt_answer_ok (k : Int) (h : mH) (r : mR) : Meets true (rm 1) m_Lt_answer [vR 0, vI k] h r (pI k (hup h 0 12 0) r) := by
  refine ⟨ok_Lt_answer, Nat.le_of_ble_eq_true rfl, ?_⟩
  refine wq_aload_n (kk := 0) (q := 1) rfl rfl rfl ?_
  refine wq_iconst (n := 0) (q := 2) rfl rfl rfl ?_
  refine wq_putI (kz := 12) (q := 5) rfl f_Lt_116 rfl rfl rfl (Or.inl ⟨rfl, Nat.le_of_ble_eq_true rfl⟩) rfl rfl ?_
  refine wq_iload_n (kk := 1) (q := 6) rfl rfl rfl ?_
  refine wq_iret rfl rfl (Nat.le_refl _) (Nat.le_refl _) ?_
  first | exact ⟨rfl, rfl, rfl⟩ | exact pB_t (by omega) | exact pB_f (by omega) | exact pC_t (by omega) | exact pC_f (by omega) | (exfalso; omega)
abbrev isT (t : Int) : Prop := 0 ≤ t ∧ t ≤ 1999
set_option maxRecDepth 100000 in
theorem Lt_isTime_ok (t : Int) (h : mH) (r : mR) : Meets true (rm 1) m_Lt_isTime [vI t] h r (pI (bI (isT t)) h r) := by
  refine ⟨ok_Lt_isTime, Nat.le_of_ble_eq_true rfl, ?_⟩
  refine wq_iload_n (kk := 0) (q := 1) rfl rfl rfl ?_
  refine wq_if_lt (tgt := 15) (q := 4) rfl rfl rfl (fun c1 => ?_) (fun c1 => ?_)
  · skip
    refine wq_iconst (n := 0) (q := 16) rfl rfl rfl ?_
    refine wq_zret rfl rfl (Nat.le_refl _) (Nat.le_refl _) (by omega) ?_
    first | exact ⟨rfl, rfl, rfl⟩ | exact pB_t (by omega) | exact pB_f (by omega) | exact pC_t (by omega) | exact pC_f (by omega) | (exfalso; omega)
  · skip
    refine wq_iload_n (kk := 0) (q := 5) rfl rfl rfl ?_
    refine wq_sipush (n := 1999) (q := 8) rfl rfl rfl ?_
    refine wq_icmp_gt (tgt := 15) (q := 11) rfl rfl rfl (fun c8 => ?_) (fun c8 => ?_)
    · skip
      refine wq_iconst (n := 0) (q := 16) rfl rfl rfl ?_
      refine wq_zret rfl rfl (Nat.le_refl _) (Nat.le_refl _) (by omega) ?_
      first | exact ⟨rfl, rfl, rfl⟩ | exact pB_t (by omega) | exact pB_f (by omega) | exact pC_t (by omega) | exact pC_f (by omega) | (exfalso; omega)
    · skip
      refine wq_iconst (n := 1) (q := 12) rfl rfl rfl ?_
      refine wq_goto (tgt := 16) rfl rfl ?_
      refine wq_zret rfl rfl (Nat.le_refl _) (Nat.le_refl _) (by omega) ?_
      first | exact ⟨rfl, rfl, rfl⟩ | exact pB_t (by omega) | exact pB_f (by omega) | exact pC_t (by omega) | exact pC_f (by omega) | (exfalso; omega)
abbrev kU (n a b : Int) : Prop := a ≠ b ∧ (0 ≤ a ∧ a < n) ∧ 0 ≤ b ∧ b < n
set_option maxRecDepth 100000 in
theorem Lt_hasUnlikeSpots_ok (a b : Int) (h : mH) (r : mR) (hcur : r.1 0 2 = some 2) : Meets true (rm 2) m_Lt_hasUnlikeSpots [vR 0, vI a, vI b] h r (pI (bI (kU (h 2 1) a b)) h r) := by
  refine ⟨ok_Lt_hasUnlikeSpots, Nat.le_of_ble_eq_true rfl, ?_⟩
  refine wq_iload_n (kk := 1) (q := 1) rfl rfl rfl ?_
  refine wq_iload_n (kk := 2) (q := 2) rfl rfl rfl ?_
  refine wq_icmp_eq (tgt := 31) (q := 5) rfl rfl rfl (fun c2 => ?_) (fun c2 => ?_)
  · skip
    refine wq_iconst (n := 0) (q := 32) rfl rfl rfl ?_
    refine wq_zret rfl rfl (Nat.le_refl _) (Nat.le_refl _) (by omega) ?_
    first | exact ⟨rfl, rfl, rfl⟩ | exact pB_t (by omega) | exact pB_f (by omega) | exact pC_t (by omega) | exact pC_f (by omega) | (exfalso; omega)
  · skip
    refine wq_aload_n (kk := 0) (q := 6) rfl rfl rfl ?_
    refine wq_getR (q := 9) f_Lt_16 rfl rfl (Or.inl ⟨rfl, Nat.le_of_ble_eq_true rfl⟩) hcur rfl rfl ?_
    refine wq_iload_n (kk := 1) (q := 10) rfl rfl rfl ?_
    refine wq_callV (q := 13) (m' := m_De_hasSpot) (R' := rm 1) (As := [_]) rfl rfl l_Lt_139 vm_De_hasSpot rfl rfl rfl (Or.inl ⟨rfl, Nat.le_of_ble_eq_true rfl⟩) (Nat.le_of_ble_eq_true rfl) (Nat.le_of_ble_eq_true rfl) (Nat.le_refl _) (Nat.le_refl _) (Nat.le_of_ble_eq_true rfl) (De_hasSpot_ok a h r) rfl ?_
    rintro rv h r ⟨rfl, rfl, rfl⟩ -
    refine wq_cif_eq (tgt := 31) (q := 16) rfl rfl rfl (fun c13 => ?_) (fun c13 => ?_)
    · skip
      refine wq_iconst (n := 0) (q := 32) rfl rfl rfl ?_
      refine wq_zret rfl rfl (Nat.le_refl _) (Nat.le_refl _) (by omega) ?_
      first | exact ⟨rfl, rfl, rfl⟩ | exact pB_t (by omega) | exact pB_f (by omega) | exact pC_t (by omega) | exact pC_f (by omega) | (exfalso; omega)
    · skip
      refine wq_aload_n (kk := 0) (q := 17) rfl rfl rfl ?_
      refine wq_getR (q := 20) f_Lt_16 rfl rfl (Or.inl ⟨rfl, Nat.le_of_ble_eq_true rfl⟩) hcur rfl rfl ?_
      refine wq_iload_n (kk := 2) (q := 21) rfl rfl rfl ?_
      refine wq_callV (q := 24) (m' := m_De_hasSpot) (R' := rm 1) (As := [_]) rfl rfl l_Lt_139 vm_De_hasSpot rfl rfl rfl (Or.inl ⟨rfl, Nat.le_of_ble_eq_true rfl⟩) (Nat.le_of_ble_eq_true rfl) (Nat.le_of_ble_eq_true rfl) (Nat.le_refl _) (Nat.le_refl _) (Nat.le_of_ble_eq_true rfl) (De_hasSpot_ok b h r) rfl ?_
      rintro rv h r ⟨rfl, rfl, rfl⟩ -
      refine wq_cif_eq (tgt := 31) (q := 27) rfl rfl rfl (fun c24 => ?_) (fun c24 => ?_)
      · skip
        refine wq_iconst (n := 0) (q := 32) rfl rfl rfl ?_
        refine wq_zret rfl rfl (Nat.le_refl _) (Nat.le_refl _) (by omega) ?_
        first | exact ⟨rfl, rfl, rfl⟩ | exact pB_t (by omega) | exact pB_f (by omega) | exact pC_t (by omega) | exact pC_f (by omega) | (exfalso; omega)
      · skip
        refine wq_iconst (n := 1) (q := 28) rfl rfl rfl ?_
        refine wq_goto (tgt := 32) rfl rfl ?_
        refine wq_zret rfl rfl (Nat.le_refl _) (Nat.le_refl _) (by omega) ?_
        first | exact ⟨rfl, rfl, rfl⟩ | exact pB_t (by omega) | exact pB_f (by omega) | exact pC_t (by omega) | exact pC_f (by omega) | (exfalso; omega)
def kP (n a b g : Int) : Int := if (0 ≤ a ∧ a < n) ∧ 0 ≤ b ∧ b < n then (if g = 0 then 2 else 0) else 1
set_option maxRecDepth 100000 in
theorem Lt_lookAtPair_ok (a b g : Int) (h : mH) (r : mR) (hcur : r.1 0 2 = some 2) : Meets true (rm 2) m_Lt_lookAtPair [vR 0, vI a, vI b, vI g] h r (pI (kP (h 2 1) a b g) h r) := by
  refine ⟨ok_Lt_lookAtPair, Nat.le_of_ble_eq_true rfl, ?_⟩
  refine wq_aload_n (kk := 0) (q := 1) rfl rfl rfl ?_
  refine wq_getR (q := 4) f_Lt_16 rfl rfl (Or.inl ⟨rfl, Nat.le_of_ble_eq_true rfl⟩) hcur rfl rfl ?_
  refine wq_iload_n (kk := 1) (q := 5) rfl rfl rfl ?_
  refine wq_callV (q := 8) (m' := m_De_hasSpot) (R' := rm 1) (As := [_]) rfl rfl l_Lt_139 vm_De_hasSpot rfl rfl rfl (Or.inl ⟨rfl, Nat.le_of_ble_eq_true rfl⟩) (Nat.le_of_ble_eq_true rfl) (Nat.le_of_ble_eq_true rfl) (Nat.le_refl _) (Nat.le_refl _) (Nat.le_of_ble_eq_true rfl) (De_hasSpot_ok a h r) rfl ?_
  rintro rv h r ⟨rfl, rfl, rfl⟩ -
  refine wq_cif_eq (tgt := 22) (q := 11) rfl rfl rfl (fun c8 => ?_) (fun c8 => ?_)
  · skip
    refine wq_iconst (n := 1) (q := 23) rfl rfl rfl ?_
    refine wq_iret rfl rfl (Nat.le_refl _) (Nat.le_refl _) ?_
    refine ⟨?_, rfl, rfl⟩
    congr 2
    unfold kP
    split <;> (try split) <;> first | rfl | (exfalso; omega)
  · skip
    refine wq_aload_n (kk := 0) (q := 12) rfl rfl rfl ?_
    refine wq_getR (q := 15) f_Lt_16 rfl rfl (Or.inl ⟨rfl, Nat.le_of_ble_eq_true rfl⟩) hcur rfl rfl ?_
    refine wq_iload_n (kk := 2) (q := 16) rfl rfl rfl ?_
    refine wq_callV (q := 19) (m' := m_De_hasSpot) (R' := rm 1) (As := [_]) rfl rfl l_Lt_139 vm_De_hasSpot rfl rfl rfl (Or.inl ⟨rfl, Nat.le_of_ble_eq_true rfl⟩) (Nat.le_of_ble_eq_true rfl) (Nat.le_of_ble_eq_true rfl) (Nat.le_refl _) (Nat.le_refl _) (Nat.le_of_ble_eq_true rfl) (De_hasSpot_ok b h r) rfl ?_
    rintro rv h r ⟨rfl, rfl, rfl⟩ -
    refine wq_cif_ne (tgt := 24) (q := 22) rfl rfl rfl (fun c19 => ?_) (fun c19 => ?_)
    · skip
      refine wq_iload_n (kk := 3) (q := 25) rfl rfl rfl ?_
      refine wq_if_eq (tgt := 32) (q := 28) rfl rfl rfl (fun c25 => ?_) (fun c25 => ?_)
      · skip
        refine wq_iconst (n := 2) (q := 33) rfl rfl rfl ?_
        refine wq_iret rfl rfl (Nat.le_refl _) (Nat.le_refl _) ?_
        refine ⟨?_, rfl, rfl⟩
        congr 2
        unfold kP
        split <;> (try split) <;> first | rfl | (exfalso; omega)
      · skip
        refine wq_iconst (n := 0) (q := 29) rfl rfl rfl ?_
        refine wq_goto (tgt := 33) rfl rfl ?_
        refine wq_iret rfl rfl (Nat.le_refl _) (Nat.le_refl _) ?_
        refine ⟨?_, rfl, rfl⟩
        congr 2
        unfold kP
        split <;> (try split) <;> first | rfl | (exfalso; omega)
    · skip
      refine wq_iconst (n := 1) (q := 23) rfl rfl rfl ?_
      refine wq_iret rfl rfl (Nat.le_refl _) (Nat.le_refl _) ?_
      refine ⟨?_, rfl, rfl⟩
      congr 2
      unfold kP
      split <;> (try split) <;> first | rfl | (exfalso; omega)

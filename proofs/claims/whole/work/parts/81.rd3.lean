/-! LinkTimes$Reader: lines -/
/-- the desk at cell i is what row R tells -/
def dM (i : Nat) (h : mH) (R : mF) : Prop := h i 0 = R 0 ∧ h i 1 = R 1 ∧ h i 2 = R 2 ∧ h i 3 = R 3 ∧ h i 4 = R 4 ∧ (∀ s, 0 ≤ s → s < R 1 → h (i + 1) s = R (5 + s) ∧ h (i + 2) s = R (15 + s)) ∧ ∀ d, 0 ≤ d → d < R 4 → h (i + 3) d = R (25 + 8 * d) ∧ h (i + 4) d = R (25 + 8 * d + 1) ∧ h (i + 5) d = R (25 + 8 * d + 2) ∧ h (i + 6) d = R (25 + 8 * d + 3) ∧ h (i + 7) d = R (25 + 8 * d + 4) ∧ h (i + 8) d = R (25 + 8 * d + 5) ∧ h (i + 9) d = R (25 + 8 * d + 7) ∧ h (i + 10) d = 1 - R (25 + 8 * d + 6)
def rdM (T : mF) (n : Int) (h : mH) (st : pS) : Prop := dM 13 h st.1 ∧ (∀ s, 0 ≤ s → s < st.1 1 → h 25 s = c27 T n (st.2.1 s)) ∧ ∀ s, 0 ≤ s → s < st.1 2 → h 26 s = c27 T n (st.2.2 s)
abbrev deC : List Nat := [13, 14, 15, 16, 17, 18, 19, 20, 21, 22, 23]
theorem dM.fr {S : List Nat} {h h1 : mH} {R : mF} (hM : dM 13 h R) (f : fr S h h1) (hS : ∀ i ∈ deC, i ∉ S) : dM 13 h1 R := by
  unfold dM at *
  simp only [Nat.reduceAdd] at *
  rw [f 13 (hS _ (by decide)), f 14 (hS _ (by decide)), f 15 (hS _ (by decide)), f 16 (hS _ (by decide)), f 17 (hS _ (by decide)), f 18 (hS _ (by decide)), f 19 (hS _ (by decide)), f 20 (hS _ (by decide)), f 21 (hS _ (by decide)), f 22 (hS _ (by decide)), f 23 (hS _ (by decide))]
  exact hM
theorem dM_span {h : mH} {R : mF} {v : Int} (m : dM 13 h R) (z : R 1 = 0 ∧ R 2 = 0 ∧ R 3 = 0 ∧ R 4 = 0) : dM 13 (hup h 13 0 v) (up R 0 v) := by
  obtain ⟨d0, d1, d2, d3, d4, -⟩ := m
  have y1 : up R 0 v 1 = R 1 := up_n (by decide)
  have y4 : up R 0 v 4 = R 4 := up_n (by decide)
  refine ⟨?_, ?_, ?_, ?_, ?_, fun s s0 s1 => ?_, fun d q0 q1 => ?_⟩
  · rw [hup_s, up_s]
  · rw [hup_j (by decide), up_n (by decide)]; exact d1
  · rw [hup_j (by decide), up_n (by decide)]; exact d2
  · rw [hup_j (by decide), up_n (by decide)]; exact d3
  · rw [hup_j (by decide), up_n (by decide)]; exact d4
  · omega
  · omega
theorem rdM_f {T : mF} {n : Int} {h h1 : mH} {st : pS} (hM : rdM T n h st) (f : fr [24] h h1) : rdM T n h1 st := by
  refine ⟨hM.1.fr f (by decide), ?_, ?_⟩
  · rw [f 25 (by decide)]; exact hM.2.1
  · rw [f 26 (by decide)]; exact hM.2.2
theorem tkd_nx {T : mF} {n p : Int} {h : mH} (hS : rdS T n p h) (hk : tkd T n p h) : rdS T n (tE T n p) h ∧ h 24 12 = tE T n p := by
  obtain ⟨a, b, c, d, e⟩ := hS
  have q := tE_p (T := T) d e
  exact ⟨⟨a, b, c, q.1, q.2.1⟩, hk.2.2.1⟩
theorem rdS_f {T : mF} {n p : Int} {h h1 : mH} {S : List Int} (hS : rdS T n p h) (f : f24 S h h1) (h3 : (3 : Int) ∉ S) : rdS T n p h1 := by
  obtain ⟨a, b, c, d, e⟩ := hS
  exact ⟨by rw [f.1 1 (by decide)]; exact a, by rw [f.2 3 h3]; exact b, c, d, e⟩
theorem exp1_nx {T : mF} {n p k : Int} {h h1 : mH} (hS : rdS T n p h) (he : exp1 T n p h h1 k) : rdS T n (tE T n p) h1 ∧ h1 24 12 = tE T n p := tkd_nx (rdS_f hS he.1 (by decide)) he.2.1
abbrev rlC : List Nat := [13, 14, 15, 16, 17, 18, 19, 20, 21, 22, 23, 24, 25, 26]
/-- what reading leaves -/
def rdF (h h1 : mH) : Prop := fr rlC h h1 ∧ h1 24 3 = h 24 3
theorem rdF.rf {h : mH} : rdF h h := ⟨fr.rf, rfl⟩
theorem rdF_f {h h1 h2 : mH} {S : List Int} (f : rdF h h1) (f2 : f24 S h1 h2) (h3 : (3 : Int) ∉ S) : rdF h h2 := ⟨f.1.trans f2.1 (by decide), (f2.2 3 h3).trans f.2⟩
theorem rdF_u {h h1 : mH} {i : Nat} {j v : Int} (f : rdF h h1) (hi : i ∈ rlC) (h3 : ¬ (i = 24 ∧ j = 3)) : rdF h (hup h1 i j v) := ⟨f.1.up hi, by
  by_cases e : i = 24
  · subst e
    rw [hup_j (fun z => h3 ⟨rfl, z.symm⟩)]; exact f.2
  · rw [hup_i (fun z => e z.symm)]; exact f.2⟩
abbrev lnQ (T : mF) (n : Int) (x : pX) (h : mH) (r : mR) : mP := fun rv h1 r1 => r1 = r ∧ rdF h h1 ∧ ((x.1 = 0 ∧ rv = some (vI 1) ∧ tkd T n x.2.2.1 h1 ∧ rdM T n h1 x.2.2.2 ∧ h1 24 0 = h 24 0 ∧ h1 24 1 = h 24 1) ∨ (x.1 ≠ 0 ∧ rv = some (vI 0) ∧ ft h1 x.1 x.2.1))
theorem lnQ.n {T : mF} {n k pl q : Int} {st : pS} {x : pX} {h h1 : mH} {r : mR} (ex : x = (k, pl, q, st)) (hk : k ≠ 0) (hF : rdF h h1) (hft : ft h1 k pl) : lnQ T n x h r (some (vI 0)) h1 r := ⟨rfl, hF, Or.inr ⟨by rw [ex]; exact hk, rfl, by rw [ex]; exact hft⟩⟩
theorem lnQ.y {T : mF} {n pl q : Int} {st : pS} {x : pX} {h h1 : mH} {r : mR} (ex : x = (0, pl, q, st)) (hF : rdF h h1) (hk : tkd T n q h1) (hM : rdM T n h1 st) (h0 : h1 24 0 = h 24 0) (h1' : h1 24 1 = h 24 1) : lnQ T n x h r (some (vI 1)) h1 r := ⟨rfl, hF, Or.inl ⟨by rw [ex], rfl, by rw [ex]; exact hk, by rw [ex]; exact hM, h0, h1'⟩⟩
theorem xW_0 {T : mF} {n p : Int} {j : Nat} (h : Wd T n p j) : xW T n p j = 0 := by show 1 - bI _ = 0; rw [bI_t h]; rfl
theorem xW_n {T : mF} {n p : Int} {j : Nat} (h : ¬ Wd T n p j) : xW T n p j ≠ 0 := by show 1 - bI _ ≠ 0; rw [bI_f h]; decide
theorem lift0 {T : mF} {n p k : Int} {h h1 : mH} (he : exp1 T n p h h1 k) (hk : k = 0) {a b : Int} (ha : h 24 0 = a) (hb : h 24 1 = b) : h1 24 0 = a ∧ h1 24 1 = b := ⟨(he.2.2.1 hk).1.trans ha, (he.2.2.1 hk).2.trans hb⟩
set_option maxRecDepth 100000 in
set_option maxHeartbeats 1000000 in
theorem Re_readSpan_ok (T : mF) (n p : Int) (st : pS) (h : mH) (r : mR) (hrde : r.1 24 4 = some 13) (hS : rdS T n p h) (hk : tkd T n p h) (hM : rdM T n h st) (hV : PV T n st) (hz : st.1 0 = 0) : Meets true (rm 8) m_Re_readSpan [vR 24] h r (lnQ T n (pSpan T n p st) h r) := by
  obtain ⟨s1, p1⟩ := tkd_nx hS hk
  refine ⟨ok_Re_readSpan, Nat.le_of_ble_eq_true rfl, ?_⟩
  refine wq_aload_n (kk := 0) (q := 1) rfl rfl rfl ?_
  refine wq_ldcs (j := 4) (q := 3) (by decide) (Nat.le_of_ble_eq_true rfl) rfl rfl ?_
  refine wq_callV (q := 6) (m' := m_Re_expectWord) (R' := rm 7) (As := [_]) rfl rfl l_Re_113 vm_Re_expectWord rfl rfl rfl (Or.inl ⟨rfl, Nat.le_of_ble_eq_true rfl⟩) (Nat.le_of_ble_eq_true rfl) (Nat.le_of_ble_eq_true rfl) (Nat.le_refl _) (Nat.le_refl _) (Nat.le_of_ble_eq_true rfl) (Re_expectWord_ok 4 (by decide) T n _ h r s1 p1) rfl ?_
  rintro rv h1 r ⟨rfl, rfl, e1⟩ -
  obtain ⟨s2, p2⟩ := exp1_nx s1 e1
  have g1 := rdF_f rdF.rf e1.1 (by decide)
  refine wq_cif_eq (tgt := 20) (q := 9) rfl rfl rfl (fun c6 => ?_) (fun c6 => ?_)
  · skip
    refine wq_iconst (n := 0) (q := 21) rfl rfl rfl ?_
    first
    | exact wq_zret rfl rfl (Nat.le_refl _) (Nat.le_refl _) (by omega) (lnQ.n (by unfold pSpan; rw [ch_y (xW_0 c6), ch_n c17]) c17 g2 (e2.2.2.2 c17))
    | exact wq_zret rfl rfl (Nat.le_refl _) (Nat.le_refl _) (by omega) (lnQ.n (by unfold pSpan; rw [ch_n (xW_n c6)]) (xW_n c6) g1 (e1.2.2.2 (xW_n c6)))
  · skip
    refine wq_aload_n (kk := 0) (q := 10) rfl rfl rfl ?_
    refine wq_iconst (n := 1) (q := 11) rfl rfl rfl ?_
    refine wq_sipush (n := 999) (q := 14) rfl rfl rfl ?_
    refine wq_callV (q := 17) (m' := m_Re_expectWhole) (R' := rm 4) (As := [_, _]) rfl rfl l_Re_116 vm_Re_expectWhole rfl rfl rfl (Or.inl ⟨rfl, Nat.le_of_ble_eq_true rfl⟩) (Nat.le_of_ble_eq_true rfl) (Nat.le_of_ble_eq_true rfl) (Nat.le_refl _) (Nat.le_refl _) (Nat.le_of_ble_eq_true rfl) (Re_expectWhole_ok 1 999 T n _ h1 r s2 p2) rfl ?_
    rintro rv h2 r ⟨rfl, rfl, e2⟩ -
    obtain ⟨s3, p3⟩ := exp1_nx s2 e2
    have g2 := rdF_f g1 e2.1 (by decide)
    refine wq_cif_ne (tgt := 22) (q := 20) rfl rfl rfl (fun c17 => ?_) (fun c17 => ?_)
    · skip
      have x0 := lift0 e2 c17 (e1.2.2.1 (xW_0 c6)).1 (e1.2.2.1 (xW_0 c6)).2
      have v2 := xN_0 c17
      have e13 := e2.2.1.2.2.2.2 v2.1
      have m2 := rdM_f (rdM_f hM e1.1.1) e2.1.1
      refine wq_aload_n (kk := 0) (q := 23) rfl rfl rfl ?_
      refine wq_getR (q := 26) f_Re_22 rfl rfl (Or.inl ⟨rfl, Nat.le_of_ble_eq_true rfl⟩) hrde rfl rfl ?_
      refine wq_aload_n (kk := 0) (q := 27) rfl rfl rfl ?_
      refine wq_getI (kz := 13) (q := 30) rfl f_Re_119 rfl rfl (Or.inl ⟨rfl, Nat.le_of_ble_eq_true rfl⟩) rfl rfl ?_
      refine wq_putI (kz := 0) (q := 33) rfl f_Re_75 rfl rfl rfl (Or.inl ⟨rfl, Nat.le_of_ble_eq_true rfl⟩) rfl rfl ?_
      have z := hV.1.2.2.2.2.2.1 hz
      have m3 : rdM T n (hup h2 13 0 (h2 24 13)) (up st.1 0 (c10 T n (tE T n (tE T n p))), st.2) := by
        refine ⟨by rw [e13]; exact dM_span m2.1 z, fun s s0 s1 => ?_, fun s s0 s1 => ?_⟩
        · have s1' : s < up st.1 0 (c10 T n (tE T n (tE T n p))) 1 := s1
          rw [up_n (by decide)] at s1'
          omega
        · have s1' : s < up st.1 0 (c10 T n (tE T n (tE T n p))) 2 := s1
          rw [up_n (by decide)] at s1'
          omega
      have s4 : rdS T n (tE T n (tE T n (tE T n p))) (hup h2 13 0 (h2 24 13)) := s3
      have p4 : hup h2 13 0 (h2 24 13) 24 12 = tE T n (tE T n (tE T n p)) := p3
      refine wq_aload_n (kk := 0) (q := 34) rfl rfl rfl ?_
      refine wq_callV (q := 37) (m' := m_Re_advance) (R' := rm 3) (As := []) rfl rfl l_Re_67 vm_Re_advance rfl rfl rfl (Or.inl ⟨rfl, Nat.le_of_ble_eq_true rfl⟩) (Nat.le_of_ble_eq_true rfl) (Nat.le_of_ble_eq_true rfl) (Nat.le_refl _) (Nat.le_refl _) (Nat.le_of_ble_eq_true rfl) (rdS.adv s4 p4) rfl ?_
      rintro rv h3 r ⟨rfl, rfl, f3, k3, -⟩ -
      refine wq_iconst (n := 1) (q := 38) rfl rfl rfl ?_
      refine wq_zret rfl rfl (Nat.le_refl _) (Nat.le_refl _) (by omega) (lnQ.y (by unfold pSpan; rw [ch_y (xW_0 c6), ch_y c17]) (rdF_f (rdF_u g2 (by decide) (by decide)) f3 (by decide)) k3 (rdM_f m3 f3.1) ?_ ?_)
      · rw [f3.2 0 (by decide)]; exact x0.1
      · rw [f3.2 1 (by decide)]; exact x0.2
    · skip
      refine wq_iconst (n := 0) (q := 21) rfl rfl rfl ?_
      first
      | exact wq_zret rfl rfl (Nat.le_refl _) (Nat.le_refl _) (by omega) (lnQ.n (by unfold pSpan; rw [ch_y (xW_0 c6), ch_n c17]) c17 g2 (e2.2.2.2 c17))
      | exact wq_zret rfl rfl (Nat.le_refl _) (Nat.le_refl _) (by omega) (lnQ.n (by unfold pSpan; rw [ch_n (xW_n c6)]) (xW_n c6) g1 (e1.2.2.2 (xW_n c6)))
set_option maxRecDepth 100000 in
set_option maxHeartbeats 1000000 in
theorem Re_expectNewName_ok (T : mF) (n p : Int) (st : pS) (h : mH) (r : mR) (hrde : r.1 24 4 = some 13) (hS : rdS T n p h) (hp : h 24 12 = p) (hM : rdM T n h st) (hV : PV T n st) : Meets true (rm 8) m_Re_expectNewName [vR 24] h r (fun rv h1 r1 => rv = some (vI (bI (xA T n st p = 0))) ∧ r1 = r ∧ exp1 T n p h h1 (xA T n st p)) := by
  have b1 := hV.1.2.1
  have b2 := hV.1.2.2.1
  refine ⟨ok_Re_expectNewName, Nat.le_of_ble_eq_true rfl, ?_⟩
  refine wq_aload_n (kk := 0) (q := 1) rfl rfl rfl ?_
  refine wq_callV (q := 4) (m' := m_Re_advance) (R' := rm 3) (As := []) rfl rfl l_Re_67 vm_Re_advance rfl rfl rfl (Or.inl ⟨rfl, Nat.le_of_ble_eq_true rfl⟩) (Nat.le_of_ble_eq_true rfl) (Nat.le_of_ble_eq_true rfl) (Nat.le_refl _) (Nat.le_refl _) (Nat.le_of_ble_eq_true rfl) (hS.adv hp) rfl ?_
  rintro rv h1 r ⟨rfl, rfl, f1, k1, t1⟩ -
  have m1 := rdM_f hM f1.1
  have d1 := m1.1.2.1
  have d2 := m1.1.2.2.1
  refine wq_aload_n (kk := 0) (q := 5) rfl rfl rfl ?_
  refine wq_callV (q := 8) (m' := m_Re_isName) (R' := rm 7) (As := []) rfl rfl l_Re_164 vm_Re_isName rfl rfl rfl (Or.inl ⟨rfl, Nat.le_of_ble_eq_true rfl⟩) (Nat.le_of_ble_eq_true rfl) (Nat.le_of_ble_eq_true rfl) (Nat.le_refl _) (Nat.le_refl _) (Nat.le_of_ble_eq_true rfl) (Re_isName_ok T n p h1 r t1 hS.2.2.1 hS.2.2.2.1 hS.2.2.2.2 k1) rfl ?_
  rintro rv h1 r ⟨rfl, rfl, rfl⟩ -
  have fs : Nm T n p → fdx (h1 25) (h1 13 1) (h1 24 13) = fdS T n st p := fun z => by
    rw [d1, k1.2.2.2.1 z.1]
    exact fdx_c (fun i i0 i1 => by rw [m1.2.1 i i0 i1])
  have fl : Nm T n p → fdx (h1 26) (h1 13 2) (h1 24 13) = fdL T n st p := fun z => by
    rw [d2, k1.2.2.2.1 z.1]
    exact fdx_c (fun i i0 i1 => by rw [m1.2.2 i i0 i1])
  refine wq_cif_ne (tgt := 17) (q := 11) rfl rfl rfl (fun c8 => ?_) (fun c8 => ?_)
  · skip
    refine wq_aload_n (kk := 0) (q := 18) rfl rfl rfl ?_
    refine wq_aload_n (kk := 0) (q := 19) rfl rfl rfl ?_
    refine wq_getF (q := 22) f_Re_9 rfl rfl (Nat.le_of_ble_eq_true rfl) rfl rfl rfl ?_
    refine wq_aload_n (kk := 0) (q := 23) rfl rfl rfl ?_
    refine wq_getR (q := 26) f_Re_22 rfl rfl (Or.inl ⟨rfl, Nat.le_of_ble_eq_true rfl⟩) hrde rfl rfl ?_
    refine wq_getI (kz := 1) (q := 29) rfl f_Re_83 rfl rfl (Or.inl ⟨rfl, Nat.le_of_ble_eq_true rfl⟩) rfl rfl ?_
    refine wq_callV (q := 32) (m' := m_Re_find) (R' := rm 1) (As := [_, _]) rfl rfl l_Re_167 vm_Re_find rfl rfl rfl (Or.inl ⟨rfl, Nat.le_of_ble_eq_true rfl⟩) (Nat.le_of_ble_eq_true rfl) (Nat.le_of_ble_eq_true rfl) (Nat.le_refl _) (Nat.le_refl _) (Nat.le_of_ble_eq_true rfl) (Re_find_ok 25 10 _ (Or.inl ⟨rfl, rfl⟩) h1 r (by omega) (by omega)) rfl ?_
    rintro rv h1 r ⟨rfl, rfl, rfl⟩ -
    rw [fs c8]
    refine wq_iconst (n := -1) (q := 33) rfl rfl rfl ?_
    refine wq_icmp_ne (tgt := 55) (q := 36) rfl rfl rfl (fun c33 => ?_) (fun c33 => ?_)
    · skip
      refine wq_iconst (n := 1) (q := 56) rfl rfl rfl ?_
      refine wq_goto (tgt := 60) rfl rfl ?_
      refine wq_istore_n (kk := 1) (q := 61) rfl rfl (Nat.le_of_ble_eq_true rfl) rfl ?_
      first
      | (have ex : xA T n st p = 0 := by unfold xA; rw [bI_t c8, if_neg (by decide), if_pos (by omega)]
         rw [ex])
      | (have ex : xA T n st p = 3 := by unfold xA; rw [bI_t c8, if_neg (by decide), if_neg (by omega)]
         rw [ex])
      refine wq_iload_n (kk := 1) (q := 62) rfl rfl rfl ?_
      refine wq_if_eq (tgt := 73) (q := 65) rfl rfl rfl (fun c62 => ?_) (fun c62 => ?_)
      · skip
        refine wq_iconst (n := 1) (q := 74) rfl rfl rfl ?_
        refine wq_goto (tgt := 78) rfl rfl ?_
        first
        | exact wq_zret rfl rfl (Nat.le_refl _) (Nat.le_refl _) (by omega) ⟨by rw [bI_t rfl], rfl, exp1.y f1 k1⟩
        | (exfalso; omega)
      · skip
        refine wq_aload_n (kk := 0) (q := 66) rfl rfl rfl ?_
        refine wq_iconst (n := 3) (q := 67) rfl rfl rfl ?_
        refine wq_callV (q := 70) (m' := m_Re_fail) (R' := rm 1) (As := [_]) rfl rfl l_Re_57 vm_Re_fail rfl rfl rfl (Or.inl ⟨rfl, Nat.le_of_ble_eq_true rfl⟩) (Nat.le_of_ble_eq_true rfl) (Nat.le_of_ble_eq_true rfl) (Nat.le_refl _) (Nat.le_refl _) (Nat.le_of_ble_eq_true rfl) (Re_fail_ok 3 _ _) rfl ?_
        rintro rv h2 r ⟨rfl, rfl, rfl⟩ -
        first
        | (exfalso; exact absurd rfl c62)
        | (refine wq_if_eq (tgt := 77) (q := 73) rfl rfl rfl (fun _ => ?_) (fun z => absurd rfl z)
           refine wq_iconst (n := 0) (q := 78) rfl rfl rfl ?_
           exact wq_zret rfl rfl (Nat.le_refl _) (Nat.le_refl _) (by omega) ⟨by rw [bI_f (by decide)], rfl, exp1.n f1 k1 (by decide)⟩)
    · skip
      refine wq_aload_n (kk := 0) (q := 37) rfl rfl rfl ?_
      refine wq_aload_n (kk := 0) (q := 38) rfl rfl rfl ?_
      refine wq_getF (q := 41) f_Re_15 rfl rfl (Nat.le_of_ble_eq_true rfl) rfl rfl rfl ?_
      refine wq_aload_n (kk := 0) (q := 42) rfl rfl rfl ?_
      refine wq_getR (q := 45) f_Re_22 rfl rfl (Or.inl ⟨rfl, Nat.le_of_ble_eq_true rfl⟩) hrde rfl rfl ?_
      refine wq_getI (kz := 2) (q := 48) rfl f_Re_95 rfl rfl (Or.inl ⟨rfl, Nat.le_of_ble_eq_true rfl⟩) rfl rfl ?_
      refine wq_callV (q := 51) (m' := m_Re_find) (R' := rm 1) (As := [_, _]) rfl rfl l_Re_167 vm_Re_find rfl rfl rfl (Or.inl ⟨rfl, Nat.le_of_ble_eq_true rfl⟩) (Nat.le_of_ble_eq_true rfl) (Nat.le_of_ble_eq_true rfl) (Nat.le_refl _) (Nat.le_refl _) (Nat.le_of_ble_eq_true rfl) (Re_find_ok 26 8 _ (Or.inr ⟨rfl, rfl⟩) h1 r (by omega) (by omega)) rfl ?_
      rintro rv h1 r ⟨rfl, rfl, rfl⟩ -
      rw [fl c8]
      refine wq_iconst (n := -1) (q := 52) rfl rfl rfl ?_
      refine wq_icmp_eq (tgt := 59) (q := 55) rfl rfl rfl (fun c52 => ?_) (fun c52 => ?_)
      · skip
        refine wq_iconst (n := 0) (q := 60) rfl rfl rfl ?_
        refine wq_istore_n (kk := 1) (q := 61) rfl rfl (Nat.le_of_ble_eq_true rfl) rfl ?_
        first
        | (have ex : xA T n st p = 0 := by unfold xA; rw [bI_t c8, if_neg (by decide), if_pos (by omega)]
           rw [ex])
        | (have ex : xA T n st p = 3 := by unfold xA; rw [bI_t c8, if_neg (by decide), if_neg (by omega)]
           rw [ex])
        refine wq_iload_n (kk := 1) (q := 62) rfl rfl rfl ?_
        refine wq_if_eq (tgt := 73) (q := 65) rfl rfl rfl (fun c62 => ?_) (fun c62 => ?_)
        · skip
          refine wq_iconst (n := 1) (q := 74) rfl rfl rfl ?_
          refine wq_goto (tgt := 78) rfl rfl ?_
          first
          | exact wq_zret rfl rfl (Nat.le_refl _) (Nat.le_refl _) (by omega) ⟨by rw [bI_t rfl], rfl, exp1.y f1 k1⟩
          | (exfalso; omega)
        · skip
          refine wq_aload_n (kk := 0) (q := 66) rfl rfl rfl ?_
          refine wq_iconst (n := 3) (q := 67) rfl rfl rfl ?_
          refine wq_callV (q := 70) (m' := m_Re_fail) (R' := rm 1) (As := [_]) rfl rfl l_Re_57 vm_Re_fail rfl rfl rfl (Or.inl ⟨rfl, Nat.le_of_ble_eq_true rfl⟩) (Nat.le_of_ble_eq_true rfl) (Nat.le_of_ble_eq_true rfl) (Nat.le_refl _) (Nat.le_refl _) (Nat.le_of_ble_eq_true rfl) (Re_fail_ok 3 _ _) rfl ?_
          rintro rv h2 r ⟨rfl, rfl, rfl⟩ -
          first
          | (exfalso; exact absurd rfl c62)
          | (refine wq_if_eq (tgt := 77) (q := 73) rfl rfl rfl (fun _ => ?_) (fun z => absurd rfl z)
             refine wq_iconst (n := 0) (q := 78) rfl rfl rfl ?_
             exact wq_zret rfl rfl (Nat.le_refl _) (Nat.le_refl _) (by omega) ⟨by rw [bI_f (by decide)], rfl, exp1.n f1 k1 (by decide)⟩)
      · skip
        refine wq_iconst (n := 1) (q := 56) rfl rfl rfl ?_
        refine wq_goto (tgt := 60) rfl rfl ?_
        refine wq_istore_n (kk := 1) (q := 61) rfl rfl (Nat.le_of_ble_eq_true rfl) rfl ?_
        first
        | (have ex : xA T n st p = 0 := by unfold xA; rw [bI_t c8, if_neg (by decide), if_pos (by omega)]
           rw [ex])
        | (have ex : xA T n st p = 3 := by unfold xA; rw [bI_t c8, if_neg (by decide), if_neg (by omega)]
           rw [ex])
        refine wq_iload_n (kk := 1) (q := 62) rfl rfl rfl ?_
        refine wq_if_eq (tgt := 73) (q := 65) rfl rfl rfl (fun c62 => ?_) (fun c62 => ?_)
        · skip
          refine wq_iconst (n := 1) (q := 74) rfl rfl rfl ?_
          refine wq_goto (tgt := 78) rfl rfl ?_
          first
          | exact wq_zret rfl rfl (Nat.le_refl _) (Nat.le_refl _) (by omega) ⟨by rw [bI_t rfl], rfl, exp1.y f1 k1⟩
          | (exfalso; omega)
        · skip
          refine wq_aload_n (kk := 0) (q := 66) rfl rfl rfl ?_
          refine wq_iconst (n := 3) (q := 67) rfl rfl rfl ?_
          refine wq_callV (q := 70) (m' := m_Re_fail) (R' := rm 1) (As := [_]) rfl rfl l_Re_57 vm_Re_fail rfl rfl rfl (Or.inl ⟨rfl, Nat.le_of_ble_eq_true rfl⟩) (Nat.le_of_ble_eq_true rfl) (Nat.le_of_ble_eq_true rfl) (Nat.le_refl _) (Nat.le_refl _) (Nat.le_of_ble_eq_true rfl) (Re_fail_ok 3 _ _) rfl ?_
          rintro rv h2 r ⟨rfl, rfl, rfl⟩ -
          first
          | (exfalso; exact absurd rfl c62)
          | (refine wq_if_eq (tgt := 77) (q := 73) rfl rfl rfl (fun _ => ?_) (fun z => absurd rfl z)
             refine wq_iconst (n := 0) (q := 78) rfl rfl rfl ?_
             exact wq_zret rfl rfl (Nat.le_refl _) (Nat.le_refl _) (by omega) ⟨by rw [bI_f (by decide)], rfl, exp1.n f1 k1 (by decide)⟩)
  · skip
    refine wq_aload_n (kk := 0) (q := 12) rfl rfl rfl ?_
    refine wq_iconst (n := 1) (q := 13) rfl rfl rfl ?_
    refine wq_callV (q := 16) (m' := m_Re_fail) (R' := rm 1) (As := [_]) rfl rfl l_Re_57 vm_Re_fail rfl rfl rfl (Or.inl ⟨rfl, Nat.le_of_ble_eq_true rfl⟩) (Nat.le_of_ble_eq_true rfl) (Nat.le_of_ble_eq_true rfl) (Nat.le_refl _) (Nat.le_refl _) (Nat.le_of_ble_eq_true rfl) (Re_fail_ok 1 _ _) rfl ?_
    rintro rv h2 r ⟨rfl, rfl, rfl⟩ -
    have ex : xA T n st p = 1 := by unfold xA; rw [bI_f c8, if_pos rfl]
    rw [ex]
    exact wq_zret rfl rfl (Nat.le_refl _) (Nat.le_refl _) (by omega) ⟨by rw [bI_f (by decide)], rfl, exp1.n f1 k1 (by decide)⟩
set_option maxRecDepth 100000 in
set_option maxHeartbeats 1000000 in
theorem Re_expectTold_ok (c : Nat) (m k g : Int) (hc : c = 25 ∧ m = 10 ∨ c = 26 ∧ m = 8) (T : mF) (n p : Int) (h : mH) (r : mR) (hS : rdS T n p h) (hp : h 24 12 = p) (k0 : 0 ≤ k) (k1 : k ≤ m) (hg : Nm T n p → fdx (h c) k (c27 T n p) = g) : Meets true (rm 8) m_Re_expectTold [vR 24, vR c, vI k] h r (fun rv h1 r1 => ∃ v, rv = some (vI v) ∧ r1 = r ∧ exp1 T n p h h1 (xU T n p g) ∧ (xU T n p g = 0 → v = g) ∧ (xU T n p g ≠ 0 → v = -1)) := by
  refine ⟨ok_Re_expectTold, Nat.le_of_ble_eq_true rfl, ?_⟩
  refine wq_aload_n (kk := 0) (q := 1) rfl rfl rfl ?_
  refine wq_callV (q := 4) (m' := m_Re_advance) (R' := rm 3) (As := []) rfl rfl l_Re_67 vm_Re_advance rfl rfl rfl (Or.inl ⟨rfl, Nat.le_of_ble_eq_true rfl⟩) (Nat.le_of_ble_eq_true rfl) (Nat.le_of_ble_eq_true rfl) (Nat.le_refl _) (Nat.le_refl _) (Nat.le_of_ble_eq_true rfl) (hS.adv hp) rfl ?_
  rintro rv h1 r ⟨rfl, rfl, f1, j1, t1⟩ -
  have ec : h1 c = h c := f1.1 c (by rcases hc with ⟨rfl, -⟩ | ⟨rfl, -⟩ <;> decide)
  refine wq_aload_n (kk := 0) (q := 5) rfl rfl rfl ?_
  refine wq_callV (q := 8) (m' := m_Re_isName) (R' := rm 7) (As := []) rfl rfl l_Re_164 vm_Re_isName rfl rfl rfl (Or.inl ⟨rfl, Nat.le_of_ble_eq_true rfl⟩) (Nat.le_of_ble_eq_true rfl) (Nat.le_of_ble_eq_true rfl) (Nat.le_refl _) (Nat.le_refl _) (Nat.le_of_ble_eq_true rfl) (Re_isName_ok T n p h1 r t1 hS.2.2.1 hS.2.2.2.1 hS.2.2.2.2 j1) rfl ?_
  rintro rv h1 r ⟨rfl, rfl, rfl⟩ -
  refine wq_cif_ne (tgt := 19) (q := 11) rfl rfl rfl (fun c8 => ?_) (fun c8 => ?_)
  · skip
    refine wq_aload_n (kk := 0) (q := 20) rfl rfl rfl ?_
    refine wq_aload_n (kk := 1) (q := 21) rfl rfl rfl ?_
    refine wq_iload_n (kk := 2) (q := 22) rfl rfl rfl ?_
    refine wq_callV (q := 25) (m' := m_Re_find) (R' := rm 1) (As := [_, _]) rfl rfl l_Re_167 vm_Re_find rfl rfl rfl (Or.inl ⟨rfl, Nat.le_of_ble_eq_true rfl⟩) (Nat.le_of_ble_eq_true rfl) (Nat.le_of_ble_eq_true rfl) (Nat.le_refl _) (Nat.le_refl _) (Nat.le_of_ble_eq_true rfl) (Re_find_ok c m k hc h1 r k0 k1) rfl ?_
    rintro rv h1 r ⟨rfl, rfl, rfl⟩ -
    have eg : fdx (h1 c) k (h1 24 13) = g := by rw [j1.2.2.2.1 c8.1, ec]; exact hg c8
    rw [eg]
    refine wq_istore_n (kk := 3) (q := 26) rfl rfl (Nat.le_of_ble_eq_true rfl) rfl ?_
    refine wq_iload_n (kk := 3) (q := 27) rfl rfl rfl ?_
    refine wq_iconst (n := -1) (q := 28) rfl rfl rfl ?_
    refine wq_icmp_ne (tgt := 37) (q := 31) rfl rfl rfl (fun c28 => ?_) (fun c28 => ?_)
    · skip
      refine wq_iload_n (kk := 3) (q := 38) rfl rfl rfl ?_
      have ex : xU T n p g = 0 := by unfold xU; rw [bI_t c8, if_neg (by decide), if_neg c28]
      refine wq_iret rfl rfl (Nat.le_refl _) (Nat.le_refl _) ⟨_, rfl, rfl, ?_⟩
      rw [ex]
      exact ⟨exp1.y f1 j1, fun _ => rfl, fun z => absurd rfl z⟩
    · skip
      refine wq_aload_n (kk := 0) (q := 32) rfl rfl rfl ?_
      refine wq_iconst (n := 2) (q := 33) rfl rfl rfl ?_
      refine wq_callV (q := 36) (m' := m_Re_fail) (R' := rm 1) (As := [_]) rfl rfl l_Re_57 vm_Re_fail rfl rfl rfl (Or.inl ⟨rfl, Nat.le_of_ble_eq_true rfl⟩) (Nat.le_of_ble_eq_true rfl) (Nat.le_of_ble_eq_true rfl) (Nat.le_refl _) (Nat.le_refl _) (Nat.le_of_ble_eq_true rfl) (Re_fail_ok 2 _ _) rfl ?_
      rintro rv h2 r ⟨rfl, rfl, rfl⟩ -
      have ex : xU T n p g = 2 := by unfold xU; rw [bI_t c8, if_neg (by decide), if_pos c28]
      refine wq_pop (q := 37) rfl rfl rfl ?_
      refine wq_iload_n (kk := 3) (q := 38) rfl rfl rfl ?_
      refine wq_iret rfl rfl (Nat.le_refl _) (Nat.le_refl _) ⟨_, rfl, rfl, ?_⟩
      rw [ex]
      exact ⟨exp1.n f1 j1 (by decide), fun z => absurd z (by decide), fun _ => c28⟩
  · skip
    refine wq_aload_n (kk := 0) (q := 12) rfl rfl rfl ?_
    refine wq_iconst (n := 1) (q := 13) rfl rfl rfl ?_
    refine wq_callV (q := 16) (m' := m_Re_fail) (R' := rm 1) (As := [_]) rfl rfl l_Re_57 vm_Re_fail rfl rfl rfl (Or.inl ⟨rfl, Nat.le_of_ble_eq_true rfl⟩) (Nat.le_of_ble_eq_true rfl) (Nat.le_of_ble_eq_true rfl) (Nat.le_refl _) (Nat.le_refl _) (Nat.le_of_ble_eq_true rfl) (Re_fail_ok 1 _ _) rfl ?_
    rintro rv h2 r ⟨rfl, rfl, rfl⟩ -
    have ex : xU T n p g = 1 := by unfold xU; rw [bI_f c8, if_pos rfl]
    refine wq_pop (q := 17) rfl rfl rfl ?_
    refine wq_iconst (n := -1) (q := 18) rfl rfl rfl ?_
    rw [ex]
    exact wq_iret rfl rfl (Nat.le_refl _) (Nat.le_refl _) ⟨-1, rfl, rfl, exp1.n f1 j1 (by decide), fun z => absurd z (by decide), fun _ => rfl⟩

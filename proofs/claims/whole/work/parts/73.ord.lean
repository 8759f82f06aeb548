/-! LinkTimes.ordered -/
def ahd (N : mN) (d : Int) : Int := cn (fun o => (rn N o == 1) && decide (lv N o < lv N d ∨ lv N o = lv N d ∧ o < d)) (nN N).toNat
def Orq (N : mN) (k v tr : Int) : Prop := (∃ d, dp N d ∧ rn N d = 1 ∧ ahd N d = k ∧ v = d ∧ tr = 0) ∨ ((∀ d, dp N d → rn N d = 1 → ahd N d ≠ k) ∧ v = -1 ∧ tr = 1)
theorem ahd_lt {N : mN} {d e : Int} (hd : dp N d) (hr : rn N d = 1) (h : ol N d e) : ahd N d + 1 ≤ ahd N e := by
  unfold ol at h
  refine cn_less (p := fun o => (rn N o == 1) && decide (lv N o < lv N e ∨ lv N o = lv N e ∧ o < e)) (q := fun o => (rn N o == 1) && decide (lv N o < lv N d ∨ lv N o = lv N d ∧ o < d)) (x := d) (fun x hx => ?_) hd.1 ?_ ?_ (by have := hd.2; have := hd.1; omega)
  · simp at hx ⊢
    refine ⟨hx.1, ?_⟩
    omega
  · simp [hr]
    omega
  · simp
theorem Orq.uniq {N : mN} {k v tr v' tr' : Int} (h : Orq N k v tr) (h' : Orq N k v' tr') : v = v' ∧ tr = tr' := by
  rcases h with ⟨d, h1, h2, h3, h4, h5⟩ | ⟨h1, h2, h3⟩ <;> rcases h' with ⟨e, k1, k2, k3, k4, k5⟩ | ⟨k1, k2, k3⟩
  · refine ⟨?_, by omega⟩
    by_cases z : d = e
    · omega
    · by_cases y : ol N d e
      · have := ahd_lt h1 h2 y; omega
      · have y' : ol N e d := by unfold ol at y ⊢; omega
        have := ahd_lt k1 k2 y'; omega
  · exact absurd h3 (k1 d h1 h2)
  · exact absurd k3 (h1 e k1 k2)
  · omega
theorem cn_cut {p : Int → Bool} {i : Int} (i0 : 0 ≤ i) : ∀ {n : Nat}, i ≤ n → cn (fun j => p j && decide (j < i)) n = cn p i.toNat
  | 0, h => by
    have : i.toNat = 0 := by omega
    rw [this]; rfl
  | n + 1, h => by
    by_cases e : i = ((n + 1 : Nat) : Int)
    · have e2 : i.toNat = n + 1 := by omega
      rw [e2]
      exact cn_congr (fun d d0 d1 => by
        have : decide (d < i) = true := by simp; omega
        simp [this])
    · have ih := cn_cut (p := p) i0 (n := n) (by omega)
      have : decide ((n : Int) < i) = false := by simp; omega
      simp only [cn]
      rw [ih]
      simp [this]
theorem isO_ahd {h : mH} {N : mN} (hV : NV N) (hO : isO h N) {i : Int} (i0 : 0 ≤ i) (i1 : i < nN N) : ahd N (h 35 i) = cn (fun j => rn N (h 35 j) == 1) i.toNat := by
  unfold ahd
  rw [← hO.1.2 (fun o => (rn N o == 1) && decide (lv N o < lv N (h 35 i) ∨ lv N o = lv N (h 35 i) ∧ o < h 35 i)), ← cn_cut (p := fun j => rn N (h 35 j) == 1) i0 (n := (nN N).toNat) (by omega)]
  refine cn_congr (fun j j0 j1 => ?_)
  have hx : decide (lv N (h 35 j) < lv N (h 35 i) ∨ lv N (h 35 j) = lv N (h 35 i) ∧ h 35 j < h 35 i) = decide (j < i) := by
    by_cases z : j < i
    · have := hO.2 j i j0 z i1
      unfold ol at this
      simp only [decide_eq_decide]
      omega
    · by_cases y : j = i
      · subst y; simp
      · have := hO.2 i j i0 (by omega) (by omega)
        unfold ol at this
        simp only [decide_eq_decide]
        omega
  rw [hx]
set_option maxRecDepth 100000 in
set_option maxHeartbeats 1000000 in
theorem Lt_orderedL (k : Int) (h : mH) (r : mR) (h1 : mH) (r1 : mR) (q1 : qf h r h1 r1) (w1 : netW h1 r1 (dN h 0)) : ∀ (M : Nat) (i s : Int) (x : Option mV), (nN (dN h 0) - i).toNat = M → 0 ≤ i → i ≤ nN (dN h 0) → s = cn (fun j => rn (dN h 0) (h1 35 j) == 1) i.toNat → (∀ j, 0 ≤ j → j < i → rn (dN h 0) (h1 35 j) = 1 → ahd (dN h 0) (h1 35 j) ≠ k) → (match x with | some (.inr (.inl _)) => false | _ => true) = true → WP (true, rm 5) m_Lt_ordered (rt m_Lt_ordered (rm 5) (qP h r (Orq (dN h 0) k))) 15 [some (vR 0), some (vI k), some (vI s), some (vI i), x] [] h1 r1 (0, 0) := by
  intro M
  induction M using Nat.strongRecOn with
  | ind M ih =>
    intro i s x hM i0 i1 hs hn hx
    have hV := w1.2.1
    have hN := w1.2.2.1
    have hO := w1.2.2.2.1
    have n1 := hN.1
    have nb := hV.1
    have sb := cn_b (fun j => rn (dN h 0) (h1 35 j) == 1) i.toNat
    have hi : i < nN (dN h 0) → (0 ≤ h1 35 i ∧ h1 35 i < nN (dN h 0)) ∧ h1 34 (h1 35 i) = rn (dN h 0) (h1 35 i) ∧ ahd (dN h 0) (h1 35 i) = s := fun z => by
      have y := hO.1.1 i i0 z
      refine ⟨y, (hN.2.2.1 _ y).2.2.2.2.2, ?_⟩
      rw [isO_ahd hV hO i0 z, hs]
    refine wq_iload_n (kk := 3) (q := 16) rfl rfl rfl ?_
    refine wq_aload_n (kk := 0) (q := 17) rfl rfl rfl ?_
    refine wq_getF (q := 20) f_Lt_44 rfl rfl (Nat.le_of_ble_eq_true rfl) rfl rfl rfl ?_
    refine wq_getI (kz := 0) (q := 23) rfl f_Lt_187 rfl rfl (Or.inl ⟨rfl, Nat.le_of_ble_eq_true rfl⟩) rfl rfl ?_
    refine wq_icmp_ge (tgt := 75) (q := 26) rfl rfl rfl (fun c23 => ?_) (fun c23 => ?_)
    · skip
      refine wq_aload_n (kk := 0) (q := 76) rfl rfl rfl ?_
      refine wq_iconst (n := 1) (q := 77) rfl rfl rfl ?_
      refine wq_callV (q := 80) (m' := m_Lt_refuse) (R' := rm 1) (As := [_]) rfl rfl l_Lt_87 vm_Lt_refuse rfl rfl rfl (Or.inl ⟨rfl, Nat.le_of_ble_eq_true rfl⟩) (Nat.le_of_ble_eq_true rfl) (Nat.le_of_ble_eq_true rfl) (Nat.le_refl _) (Nat.le_refl _) (Nat.le_of_ble_eq_true rfl) (Lt_refuse_ok _ _ _) rfl ?_
      rintro rv h5 r1 ⟨rfl, rfl, rfl⟩ -
      refine wq_iret rfl rfl (Nat.le_refl _) (Nat.le_refl _) ⟨_, rfl, ?_, q1.put 1⟩
      rw [hup_s]
      refine Or.inr ⟨fun d hd hr => ?_, rfl, rfl⟩
      first
      | (obtain ⟨j, j0, j1, rfl⟩ := hO.1.sur hd.1 hd.2
         exact hn j j0 (by omega) hr)
      | (have := cn_b (fun o => (rn (dN h 0) o == 1) && decide (lv (dN h 0) o < lv (dN h 0) d ∨ lv (dN h 0) o = lv (dN h 0) d ∧ o < d)) (nN (dN h 0)).toNat
         unfold ahd
         omega)
    · skip
      refine wq_iload_n (kk := 1) (q := 27) rfl rfl rfl ?_
      refine wq_if_lt (tgt := 75) (q := 30) rfl rfl rfl (fun c27 => ?_) (fun c27 => ?_)
      · skip
        refine wq_aload_n (kk := 0) (q := 76) rfl rfl rfl ?_
        refine wq_iconst (n := 1) (q := 77) rfl rfl rfl ?_
        refine wq_callV (q := 80) (m' := m_Lt_refuse) (R' := rm 1) (As := [_]) rfl rfl l_Lt_87 vm_Lt_refuse rfl rfl rfl (Or.inl ⟨rfl, Nat.le_of_ble_eq_true rfl⟩) (Nat.le_of_ble_eq_true rfl) (Nat.le_of_ble_eq_true rfl) (Nat.le_refl _) (Nat.le_refl _) (Nat.le_of_ble_eq_true rfl) (Lt_refuse_ok _ _ _) rfl ?_
        rintro rv h5 r1 ⟨rfl, rfl, rfl⟩ -
        refine wq_iret rfl rfl (Nat.le_refl _) (Nat.le_refl _) ⟨_, rfl, ?_, q1.put 1⟩
        rw [hup_s]
        refine Or.inr ⟨fun d hd hr => ?_, rfl, rfl⟩
        first
        | (obtain ⟨j, j0, j1, rfl⟩ := hO.1.sur hd.1 hd.2
           exact hn j j0 (by omega) hr)
        | (have := cn_b (fun o => (rn (dN h 0) o == 1) && decide (lv (dN h 0) o < lv (dN h 0) d ∨ lv (dN h 0) o = lv (dN h 0) d ∧ o < d)) (nN (dN h 0)).toNat
           unfold ahd
           omega)
      · skip
        refine wq_aload_n (kk := 0) (q := 31) rfl rfl rfl ?_
        refine wq_getF (q := 34) f_Lt_44 rfl rfl (Nat.le_of_ble_eq_true rfl) rfl rfl rfl ?_
        refine wq_getF (q := 37) f_Lt_188 rfl rfl (Nat.le_of_ble_eq_true rfl) rfl rfl rfl ?_
        refine wq_iload_n (kk := 3) (q := 38) rfl rfl rfl ?_
        refine wq_iald (q := 39) rfl (Or.inl ⟨rfl, Nat.le_of_ble_eq_true rfl⟩) rfl rfl (by first | omega | (have := hi (by omega); omega)) (by first | omega | (have := hi (by omega); omega)) ?_
        refine wq_istore (i := 4) (q := 41) rfl rfl (Nat.le_of_ble_eq_true rfl) rfl ?_
        refine wq_aload_n (kk := 0) (q := 42) rfl rfl rfl ?_
        refine wq_getF (q := 45) f_Lt_44 rfl rfl (Nat.le_of_ble_eq_true rfl) rfl rfl rfl ?_
        refine wq_getF (q := 48) f_Lt_191 rfl rfl (Nat.le_of_ble_eq_true rfl) rfl rfl rfl ?_
        refine wq_iload (i := 4) (q := 50) rfl rfl rfl ?_
        refine wq_zald (q := 51) rfl (Or.inl ⟨rfl, Nat.le_of_ble_eq_true rfl⟩) rfl rfl (by first | omega | (have := hi (by omega); omega)) (by first | omega | (have := hi (by omega); omega)) ?_
        refine wq_if_eq (tgt := 69) (q := 54) rfl rfl rfl (fun c51 => ?_) (fun c51 => ?_)
        · skip
          refine wq_iinc (i := 3) (n := 1) (q := 72) rfl rfl rfl (Nat.le_of_ble_eq_true rfl) rfl (by first | omega | (have := hi (by omega); omega)) (by first | omega | (have := hi (by omega); omega)) ?_
          refine wq_goto (tgt := 15) rfl rfl ?_
          have y := hi (by omega)
          have v := (hV.2.2.1 _ y.1).2.2.2.2
          refine ih _ (by omega) (i + 1) _ _ rfl (by omega) (by omega) ?_ (fun j j0 j1 jr => ?_) rfl
          · rw [cn_s i0]
            simp only [beq_iff_eq]
            split <;> omega
          · by_cases e : j = i
            · subst e; omega
            · exact hn j j0 (by omega) jr
        · skip
          refine wq_iload_n (kk := 2) (q := 55) rfl rfl rfl ?_
          refine wq_iload_n (kk := 1) (q := 56) rfl rfl rfl ?_
          refine wq_icmp_ne (tgt := 66) (q := 59) rfl rfl rfl (fun c56 => ?_) (fun c56 => ?_)
          · skip
            refine wq_iinc (i := 2) (n := 1) (q := 69) rfl rfl rfl (Nat.le_of_ble_eq_true rfl) rfl (by first | omega | (have := hi (by omega); omega)) (by first | omega | (have := hi (by omega); omega)) ?_
            refine wq_iinc (i := 3) (n := 1) (q := 72) rfl rfl rfl (Nat.le_of_ble_eq_true rfl) rfl (by first | omega | (have := hi (by omega); omega)) (by first | omega | (have := hi (by omega); omega)) ?_
            refine wq_goto (tgt := 15) rfl rfl ?_
            have y := hi (by omega)
            have v := (hV.2.2.1 _ y.1).2.2.2.2
            refine ih _ (by omega) (i + 1) _ _ rfl (by omega) (by omega) ?_ (fun j j0 j1 jr => ?_) rfl
            · rw [cn_s i0]
              simp only [beq_iff_eq]
              split <;> omega
            · by_cases e : j = i
              · subst e; omega
              · exact hn j j0 (by omega) jr
          · skip
            refine wq_aload_n (kk := 0) (q := 60) rfl rfl rfl ?_
            refine wq_iload (i := 4) (q := 62) rfl rfl rfl ?_
            refine wq_callV (q := 65) (m' := m_Lt_answer) (R' := rm 1) (As := [_]) rfl rfl l_Lt_113 vm_Lt_answer rfl rfl rfl (Or.inl ⟨rfl, Nat.le_of_ble_eq_true rfl⟩) (Nat.le_of_ble_eq_true rfl) (Nat.le_of_ble_eq_true rfl) (Nat.le_refl _) (Nat.le_refl _) (Nat.le_of_ble_eq_true rfl) (Lt_answer_ok _ _ _) rfl ?_
            rintro rv h5 r1 ⟨rfl, rfl, rfl⟩ -
            refine wq_iret rfl rfl (Nat.le_refl _) (Nat.le_refl _) ⟨_, rfl, ?_, q1.put 0⟩
            rw [hup_s]
            have y := hi (by omega)
            have v := (hV.2.2.1 _ y.1).2.2.2.2
            exact Or.inl ⟨_, y.1, by omega, by omega, rfl, rfl⟩
set_option maxRecDepth 100000 in
set_option maxHeartbeats 1000000 in
theorem Lt_ordered_ok (k : Int) (h : mH) (r : mR) (hI : IQ h r) : Meets true (rm 5) m_Lt_ordered [vR 0, vI k] h r (qP h r (Orq (dN h 0) k)) := by
  have hcur := hI.2.2.2.1
  have q0 := qf.rf hI
  refine ⟨ok_Lt_ordered, Nat.le_of_ble_eq_true rfl, ?_⟩
  refine wq_aload_n (kk := 0) (q := 1) rfl rfl rfl ?_
  refine wq_getF (q := 4) f_Lt_44 rfl rfl (Nat.le_of_ble_eq_true rfl) rfl rfl rfl ?_
  refine wq_aload_n (kk := 0) (q := 5) rfl rfl rfl ?_
  refine wq_getR (q := 8) f_Lt_16 rfl rfl (Or.inl ⟨rfl, Nat.le_of_ble_eq_true rfl⟩) hcur rfl rfl ?_
  refine wq_callV (q := 11) (m' := m_Ne_load) (R' := rm 4) (As := [_]) rfl rfl l_Lt_184 vm_Ne_load rfl rfl rfl (Or.inl ⟨rfl, Nat.le_of_ble_eq_true rfl⟩) (Nat.le_of_ble_eq_true rfl) (Nat.le_of_ble_eq_true rfl) (Nat.le_refl _) (Nat.le_refl _) (Nat.le_of_ble_eq_true rfl) (Lt_load q0) rfl ?_
  rintro rv h2 r2 ⟨rfl, q2, w2⟩ -
  refine wq_iconst (n := 0) (q := 12) rfl rfl rfl ?_
  refine wq_istore_n (kk := 2) (q := 13) rfl rfl (Nat.le_of_ble_eq_true rfl) rfl ?_
  refine wq_iconst (n := 0) (q := 14) rfl rfl rfl ?_
  refine wq_istore_n (kk := 3) (q := 15) rfl rfl (Nat.le_of_ble_eq_true rfl) rfl ?_
  exact Lt_orderedL k h r h2 r2 q2 w2 _ 0 0 none rfl (by omega) (w2.2.1.1.1) rfl (fun j j0 j1 => by omega) rfl

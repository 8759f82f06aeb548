/-! LinkTimesModel: laysWithin, soonestBy, within -/
/-- what is laid: with k changes at most; -1: never -/
def Vr (h : mH) : Int → mF := fun k d => if k = -1 then 9999 else h 78 (120 * d + k)
theorem Vr_k {h : mH} {k d : Int} (hk : 0 ≤ k) : Vr h k d = h 78 (120 * d + k) := if_neg (by omega)
theorem Vr_1 {h : mH} {d : Int} : Vr h (-1) d = 9999 := if_pos rfl
theorem Vr_t {N : mN} {h : mH} {k d f : Int} : Vr h (k - tn N d f) f = (if ln N d = ln N f then Vr h k f else Vr h (k - 1) f) := by
  unfold tn
  split
  · rw [show k - 0 = k by omega]
  · rfl
def SWr (h : mH) (N : mN) (d k base : Int) (P : Int → Prop) (v : Int) : Prop := v ≤ base ∧ (v = base ∨ ∃ f, P f ∧ Cf N d f ∧ v = Vr h (k - tn N d f) f) ∧ ∀ f, P f → Cf N d f → v ≤ Vr h (k - tn N d f) f
set_option maxRecDepth 100000 in
theorem Mo_soonest_ok (d k : Int) (h : mH) (r : mR) (hd : 0 ≤ d ∧ d < 120) (hk : 0 ≤ k ∧ k < 120) : Meets true (rm 1) m_Mo_soonest [vR 64, vI d, vI k] h r (pI (h 78 (120 * d + k)) h r) := by
  refine ⟨ok_Mo_soonest, Nat.le_of_ble_eq_true rfl, ?_⟩
  refine wq_aload_n (kk := 0) (q := 1) rfl rfl rfl ?_
  refine wq_getF (q := 4) f_Mo_54 rfl rfl (Nat.le_of_ble_eq_true rfl) rfl rfl rfl ?_
  refine wq_bipush (n := 120) (q := 6) rfl rfl rfl ?_
  refine wq_iload_n (kk := 1) (q := 7) rfl rfl rfl ?_
  refine wq_imul (q := 8) rfl rfl (by first | omega | (simp [hup]; omega)) (by first | omega | (simp [hup]; omega)) ?_
  refine wq_iload_n (kk := 2) (q := 9) rfl rfl rfl ?_
  refine wq_iadd (q := 10) rfl rfl (by first | omega | (simp [hup]; omega)) (by first | omega | (simp [hup]; omega)) ?_
  refine wq_iald (q := 11) rfl (Or.inl ⟨rfl, Nat.le_of_ble_eq_true rfl⟩) rfl rfl (by first | omega | (simp [hup]; omega)) (by first | omega | (simp [hup]; omega)) ?_
  refine wq_iret rfl rfl (Nat.le_refl _) (Nat.le_refl _) ?_
  first | exact ⟨rfl, rfl, rfl⟩ | exact pB_t (by omega) | exact pB_f (by omega) | exact pC_t (by omega) | exact pC_f (by omega) | (exfalso; omega)
set_option maxRecDepth 100000 in
set_option maxHeartbeats 2000000 in
theorem Mo_withinI (N : mN) (b K0 i k base : Int) (X : mX) (h1 : mH) (r : mR) (hM : isM h1 N) (o : mF) (m : Int) (hS : Sr N o m (nN N)) (i0 : 0 ≤ i) (i1 : i < m) (e77 : h1 77 = o) (k0 : 0 ≤ k ∧ k < 120) (hb9 : base ≤ 9999) (K : ∀ (v : Int) (x8 x9 : Option mV), SWr h1 N (o i) k base (fun f => ∃ q, 0 ≤ q ∧ q < i ∧ o q = f) v → WP (true, rm 5) m_Mo_laysWithin X 145 [some (vR 64), some (vI b), some (vI K0), some (vI i), some (vI (o i)), some (vI k), some (vI v), some (vI i), x8, x9] [] h1 r (0, 0)) : ∀ (M : Nat) (j v : Int) (x8 x9 : Option mV), (i - j).toNat = M → 0 ≤ j → j ≤ i → SWr h1 N (o i) k base (fun f => ∃ q, 0 ≤ q ∧ q < j ∧ o q = f) v → WP (true, rm 5) m_Mo_laysWithin X 63 [some (vR 64), some (vI b), some (vI K0), some (vI i), some (vI (o i)), some (vI k), some (vI v), some (vI j), x8, x9] [] h1 r (0, 0) := by
  intro M
  induction M using Nat.strongRecOn with
  | ind M ih =>
    intro j v x8 x9 hN j0 j1 hL
    have hV := hM.1
    have hn := hV.1
    have hm := hS.1
    have hd := (hS.2.1 i i0 i1).1
    have e77' : h1 77 j = o j := by rw [e77]
    have hj : j < i → (0 ≤ o j ∧ o j < nN N) ∧ rn N (o j) = 1 := fun z => hS.2.1 j j0 (by omega)
    have ht := tn_b N (o i) (o j)
    have step : ∀ w, w ≤ v → (w = v ∨ (Cf N (o i) (o j) ∧ w = Vr h1 (k - tn N (o i) (o j)) (o j))) → (Cf N (o i) (o j) → w ≤ Vr h1 (k - tn N (o i) (o j)) (o j)) → j < i → SWr h1 N (o i) k base (fun f => ∃ q, 0 ≤ q ∧ q < j + 1 ∧ o q = f) w := fun w w1 w2 w3 hji => by
      refine ⟨Int.le_trans w1 hL.1, ?_, ?_⟩
      · rcases w2 with rfl | ⟨w2, w4⟩
        · rcases hL.2.1 with z | ⟨f, ⟨q, q0, q1, q2⟩, z1, z2⟩
          · exact Or.inl z
          · exact Or.inr ⟨f, ⟨q, q0, by omega, q2⟩, z1, z2⟩
        · exact Or.inr ⟨o j, ⟨j, j0, by omega, rfl⟩, w2, w4⟩
      · rintro f ⟨q, q0, q1, q2⟩ hc
        by_cases e : q = j
        · subst e; subst q2; exact w3 hc
        · exact Int.le_trans w1 (hL.2.2 f ⟨q, q0, by omega, q2⟩ hc)
    refine wq_iload (i := 7) (q := 65) rfl rfl rfl ?_
    refine wq_iload_n (kk := 3) (q := 66) rfl rfl rfl ?_
    refine wq_icmp_ge (tgt := 145) (q := 69) rfl rfl rfl (fun c66 => ?_) (fun c66 => ?_)
    · skip
      have ej : j = i := by omega
      subst ej
      exact K v x8 x9 hL
    · skip
      refine wq_aload_n (kk := 0) (q := 70) rfl rfl rfl ?_
      refine wq_getF (q := 73) f_Mo_51 rfl rfl (Nat.le_of_ble_eq_true rfl) rfl rfl rfl ?_
      refine wq_iload (i := 7) (q := 75) rfl rfl rfl ?_
      refine wq_iald (q := 76) rfl (Or.inl ⟨rfl, Nat.le_of_ble_eq_true rfl⟩) rfl rfl (by first | omega | (simp [hup]; omega)) (by first | omega | (simp [hup]; omega)) ?_
      rw [e77']
      have hji := hj (by omega)
      refine wq_istore (i := 8) (q := 78) rfl rfl (Nat.le_of_ble_eq_true rfl) rfl ?_
      refine wq_aload_n (kk := 0) (q := 79) rfl rfl rfl ?_
      refine wq_iload (i := 4) (q := 81) rfl rfl rfl ?_
      refine wq_iload (i := 8) (q := 83) rfl rfl rfl ?_
      refine wq_callV (q := 86) (m' := m_Mo_canFollow) (R' := rm 4) (As := [_, _]) rfl rfl l_Mo_285 vm_Mo_canFollow rfl rfl rfl (Or.inl ⟨rfl, Nat.le_of_ble_eq_true rfl⟩) (Nat.le_of_ble_eq_true rfl) (Nat.le_of_ble_eq_true rfl) (Nat.le_refl _) (Nat.le_refl _) (Nat.le_of_ble_eq_true rfl) (Mo_canFollow_ok N (o i) (o j) h1 r hM hd hji.1) rfl ?_
      rintro rv h1 r ⟨rfl, rfl, rfl⟩ -
      refine wq_cif_eq (tgt := 103) (q := 89) rfl rfl rfl (fun c86 => ?_) (fun c86 => ?_)
      · skip
        refine wq_iconst (n := -1) (q := 104) rfl rfl rfl ?_
        refine wq_istore (i := 9) (q := 106) rfl rfl (Nat.le_of_ble_eq_true rfl) rfl ?_
        refine wq_iload (i := 9) (q := 108) rfl rfl rfl ?_
        refine wq_if_lt (tgt := 135) (q := 111) rfl rfl rfl (fun c108 => ?_) (fun c108 => ?_)
        · skip
          refine wq_iload (i := 6) (q := 137) rfl rfl rfl ?_
          refine wq_istore (i := 6) (q := 139) rfl rfl (Nat.le_of_ble_eq_true rfl) rfl ?_
          refine wq_iinc (i := 7) (n := 1) (q := 142) rfl rfl rfl (Nat.le_of_ble_eq_true rfl) rfl (by first | omega | (simp [hup]; omega)) (by first | omega | (simp [hup]; omega)) ?_
          refine wq_goto (tgt := 63) rfl rfl ?_
          refine ih _ (by omega) (j + 1) _ _ _ rfl (by omega) (by omega) (step _ ?_ ?_ ?_ (by omega))
          · omega
          · first
            | exact Or.inl rfl
            | (exfalso; omega)
            | exact Or.inr ⟨⟨hji.1, hji.2, c86.1, c86.2⟩, by rw [Vr_k (by omega)]⟩
          · intro hc
            first
            | exact absurd ⟨hc.2.2.1, hc.2.2.2⟩ c86
            | (rw [Vr_k (by omega)]; omega)
            | (have e : k - tn N (o i) (o j) = -1 := by omega
               rw [e, Vr_1]
               have := hL.1
               omega)
        · skip
          refine wq_aload_n (kk := 0) (q := 112) rfl rfl rfl ?_
          refine wq_iload (i := 8) (q := 114) rfl rfl rfl ?_
          refine wq_iload (i := 9) (q := 116) rfl rfl rfl ?_
          refine wq_callV (q := 119) (m' := m_Mo_soonest) (R' := rm 1) (As := [_, _]) rfl rfl l_Mo_316 vm_Mo_soonest rfl rfl rfl (Or.inl ⟨rfl, Nat.le_of_ble_eq_true rfl⟩) (Nat.le_of_ble_eq_true rfl) (Nat.le_of_ble_eq_true rfl) (Nat.le_refl _) (Nat.le_refl _) (Nat.le_of_ble_eq_true rfl) (Mo_soonest_ok (o j) _ h1 r (by omega) (by omega)) rfl ?_
          rintro rv h1 r ⟨rfl, rfl, rfl⟩ -
          refine wq_iload (i := 6) (q := 121) rfl rfl rfl ?_
          refine wq_icmp_ge (tgt := 135) (q := 124) rfl rfl rfl (fun c121 => ?_) (fun c121 => ?_)
          · skip
            refine wq_iload (i := 6) (q := 137) rfl rfl rfl ?_
            refine wq_istore (i := 6) (q := 139) rfl rfl (Nat.le_of_ble_eq_true rfl) rfl ?_
            refine wq_iinc (i := 7) (n := 1) (q := 142) rfl rfl rfl (Nat.le_of_ble_eq_true rfl) rfl (by first | omega | (simp [hup]; omega)) (by first | omega | (simp [hup]; omega)) ?_
            refine wq_goto (tgt := 63) rfl rfl ?_
            refine ih _ (by omega) (j + 1) _ _ _ rfl (by omega) (by omega) (step _ ?_ ?_ ?_ (by omega))
            · omega
            · first
              | exact Or.inl rfl
              | (exfalso; omega)
              | exact Or.inr ⟨⟨hji.1, hji.2, c86.1, c86.2⟩, by rw [Vr_k (by omega)]⟩
            · intro hc
              first
              | exact absurd ⟨hc.2.2.1, hc.2.2.2⟩ c86
              | (rw [Vr_k (by omega)]; omega)
              | (have e : k - tn N (o i) (o j) = -1 := by omega
                 rw [e, Vr_1]
                 have := hL.1
                 omega)
          · skip
            refine wq_aload_n (kk := 0) (q := 125) rfl rfl rfl ?_
            refine wq_iload (i := 8) (q := 127) rfl rfl rfl ?_
            refine wq_iload (i := 9) (q := 129) rfl rfl rfl ?_
            refine wq_callV (q := 132) (m' := m_Mo_soonest) (R' := rm 1) (As := [_, _]) rfl rfl l_Mo_316 vm_Mo_soonest rfl rfl rfl (Or.inl ⟨rfl, Nat.le_of_ble_eq_true rfl⟩) (Nat.le_of_ble_eq_true rfl) (Nat.le_of_ble_eq_true rfl) (Nat.le_refl _) (Nat.le_refl _) (Nat.le_of_ble_eq_true rfl) (Mo_soonest_ok (o j) _ h1 r (by omega) (by omega)) rfl ?_
            rintro rv h1 r ⟨rfl, rfl, rfl⟩ -
            refine wq_goto (tgt := 137) rfl rfl ?_
            refine wq_istore (i := 6) (q := 139) rfl rfl (Nat.le_of_ble_eq_true rfl) rfl ?_
            refine wq_iinc (i := 7) (n := 1) (q := 142) rfl rfl rfl (Nat.le_of_ble_eq_true rfl) rfl (by first | omega | (simp [hup]; omega)) (by first | omega | (simp [hup]; omega)) ?_
            refine wq_goto (tgt := 63) rfl rfl ?_
            refine ih _ (by omega) (j + 1) _ _ _ rfl (by omega) (by omega) (step _ ?_ ?_ ?_ (by omega))
            · omega
            · first
              | exact Or.inl rfl
              | (exfalso; omega)
              | exact Or.inr ⟨⟨hji.1, hji.2, c86.1, c86.2⟩, by rw [Vr_k (by omega)]⟩
            · intro hc
              first
              | exact absurd ⟨hc.2.2.1, hc.2.2.2⟩ c86
              | (rw [Vr_k (by omega)]; omega)
              | (have e : k - tn N (o i) (o j) = -1 := by omega
                 rw [e, Vr_1]
                 have := hL.1
                 omega)
      · skip
        refine wq_iload (i := 5) (q := 91) rfl rfl rfl ?_
        refine wq_aload_n (kk := 0) (q := 92) rfl rfl rfl ?_
        refine wq_iload (i := 4) (q := 94) rfl rfl rfl ?_
        refine wq_iload (i := 8) (q := 96) rfl rfl rfl ?_
        refine wq_callV (q := 99) (m' := m_Mo_turns) (R' := rm 2) (As := [_, _]) rfl rfl l_Mo_289 vm_Mo_turns rfl rfl rfl (Or.inl ⟨rfl, Nat.le_of_ble_eq_true rfl⟩) (Nat.le_of_ble_eq_true rfl) (Nat.le_of_ble_eq_true rfl) (Nat.le_refl _) (Nat.le_refl _) (Nat.le_of_ble_eq_true rfl) (Mo_turns_ok N (o i) (o j) h1 r hM hd hji.1) rfl ?_
        rintro rv h1 r ⟨rfl, rfl, rfl⟩ -
        refine wq_isub (q := 100) rfl rfl (by first | omega | (simp [hup]; omega)) (by first | omega | (simp [hup]; omega)) ?_
        refine wq_goto (tgt := 104) rfl rfl ?_
        refine wq_istore (i := 9) (q := 106) rfl rfl (Nat.le_of_ble_eq_true rfl) rfl ?_
        refine wq_iload (i := 9) (q := 108) rfl rfl rfl ?_
        refine wq_if_lt (tgt := 135) (q := 111) rfl rfl rfl (fun c108 => ?_) (fun c108 => ?_)
        · skip
          refine wq_iload (i := 6) (q := 137) rfl rfl rfl ?_
          refine wq_istore (i := 6) (q := 139) rfl rfl (Nat.le_of_ble_eq_true rfl) rfl ?_
          refine wq_iinc (i := 7) (n := 1) (q := 142) rfl rfl rfl (Nat.le_of_ble_eq_true rfl) rfl (by first | omega | (simp [hup]; omega)) (by first | omega | (simp [hup]; omega)) ?_
          refine wq_goto (tgt := 63) rfl rfl ?_
          refine ih _ (by omega) (j + 1) _ _ _ rfl (by omega) (by omega) (step _ ?_ ?_ ?_ (by omega))
          · omega
          · first
            | exact Or.inl rfl
            | (exfalso; omega)
            | exact Or.inr ⟨⟨hji.1, hji.2, c86.1, c86.2⟩, by rw [Vr_k (by omega)]⟩
          · intro hc
            first
            | exact absurd ⟨hc.2.2.1, hc.2.2.2⟩ c86
            | (rw [Vr_k (by omega)]; omega)
            | (have e : k - tn N (o i) (o j) = -1 := by omega
               rw [e, Vr_1]
               have := hL.1
               omega)
        · skip
          refine wq_aload_n (kk := 0) (q := 112) rfl rfl rfl ?_
          refine wq_iload (i := 8) (q := 114) rfl rfl rfl ?_
          refine wq_iload (i := 9) (q := 116) rfl rfl rfl ?_
          refine wq_callV (q := 119) (m' := m_Mo_soonest) (R' := rm 1) (As := [_, _]) rfl rfl l_Mo_316 vm_Mo_soonest rfl rfl rfl (Or.inl ⟨rfl, Nat.le_of_ble_eq_true rfl⟩) (Nat.le_of_ble_eq_true rfl) (Nat.le_of_ble_eq_true rfl) (Nat.le_refl _) (Nat.le_refl _) (Nat.le_of_ble_eq_true rfl) (Mo_soonest_ok (o j) _ h1 r (by omega) (by omega)) rfl ?_
          rintro rv h1 r ⟨rfl, rfl, rfl⟩ -
          refine wq_iload (i := 6) (q := 121) rfl rfl rfl ?_
          refine wq_icmp_ge (tgt := 135) (q := 124) rfl rfl rfl (fun c121 => ?_) (fun c121 => ?_)
          · skip
            refine wq_iload (i := 6) (q := 137) rfl rfl rfl ?_
            refine wq_istore (i := 6) (q := 139) rfl rfl (Nat.le_of_ble_eq_true rfl) rfl ?_
            refine wq_iinc (i := 7) (n := 1) (q := 142) rfl rfl rfl (Nat.le_of_ble_eq_true rfl) rfl (by first | omega | (simp [hup]; omega)) (by first | omega | (simp [hup]; omega)) ?_
            refine wq_goto (tgt := 63) rfl rfl ?_
            refine ih _ (by omega) (j + 1) _ _ _ rfl (by omega) (by omega) (step _ ?_ ?_ ?_ (by omega))
            · omega
            · first
              | exact Or.inl rfl
              | (exfalso; omega)
              | exact Or.inr ⟨⟨hji.1, hji.2, c86.1, c86.2⟩, by rw [Vr_k (by omega)]⟩
            · intro hc
              first
              | exact absurd ⟨hc.2.2.1, hc.2.2.2⟩ c86
              | (rw [Vr_k (by omega)]; omega)
              | (have e : k - tn N (o i) (o j) = -1 := by omega
                 rw [e, Vr_1]
                 have := hL.1
                 omega)
          · skip
            refine wq_aload_n (kk := 0) (q := 125) rfl rfl rfl ?_
            refine wq_iload (i := 8) (q := 127) rfl rfl rfl ?_
            refine wq_iload (i := 9) (q := 129) rfl rfl rfl ?_
            refine wq_callV (q := 132) (m' := m_Mo_soonest) (R' := rm 1) (As := [_, _]) rfl rfl l_Mo_316 vm_Mo_soonest rfl rfl rfl (Or.inl ⟨rfl, Nat.le_of_ble_eq_true rfl⟩) (Nat.le_of_ble_eq_true rfl) (Nat.le_of_ble_eq_true rfl) (Nat.le_refl _) (Nat.le_refl _) (Nat.le_of_ble_eq_true rfl) (Mo_soonest_ok (o j) _ h1 r (by omega) (by omega)) rfl ?_
            rintro rv h1 r ⟨rfl, rfl, rfl⟩ -
            refine wq_goto (tgt := 137) rfl rfl ?_
            refine wq_istore (i := 6) (q := 139) rfl rfl (Nat.le_of_ble_eq_true rfl) rfl ?_
            refine wq_iinc (i := 7) (n := 1) (q := 142) rfl rfl rfl (Nat.le_of_ble_eq_true rfl) rfl (by first | omega | (simp [hup]; omega)) (by first | omega | (simp [hup]; omega)) ?_
            refine wq_goto (tgt := 63) rfl rfl ?_
            refine ih _ (by omega) (j + 1) _ _ _ rfl (by omega) (by omega) (step _ ?_ ?_ ?_ (by omega))
            · omega
            · first
              | exact Or.inl rfl
              | (exfalso; omega)
              | exact Or.inr ⟨⟨hji.1, hji.2, c86.1, c86.2⟩, by rw [Vr_k (by omega)]⟩
            · intro hc
              first
              | exact absurd ⟨hc.2.2.1, hc.2.2.2⟩ c86
              | (rw [Vr_k (by omega)]; omega)
              | (have e : k - tn N (o i) (o j) = -1 := by omega
                 rw [e, Vr_1]
                 have := hL.1
                 omega)
/-- what is laid of d up to k changes is right -/
def WAk (N : mN) (b : Int) (h : mH) (d k : Int) : Prop := WA N b 9999 (Vr h (k - 1)) (Vr h k) d ∧ (Vr h k d = 9999 ∨ ar N d ≤ Vr h k d ∧ Vr h k d ≤ 1700)
theorem WAk_c {N : mN} {b : Int} {h h1 : mH} {d k : Int} (k0 : 0 ≤ k) (k1 : k < 120) (hw : WAk N b h d k) (hd : ∀ j, 0 ≤ j → j ≤ k → h1 78 (120 * d + j) = h 78 (120 * d + j)) (hf : ∀ f j, Cf N d f → 0 ≤ j → j ≤ k → h1 78 (120 * f + j) = h 78 (120 * f + j)) : WAk N b h1 d k := by
  have e : ∀ j, -1 ≤ j → j ≤ k → Vr h1 j d = Vr h j d := fun j j0 j1 => by
    by_cases z : j = -1
    · rw [z, Vr_1, Vr_1]
    · rw [Vr_k (by omega), Vr_k (by omega)]; exact hd j (by omega) j1
  have ef : ∀ f, Cf N d f → (if ln N d = ln N f then Vr h1 k f else Vr h1 (k - 1) f) = (if ln N d = ln N f then Vr h k f else Vr h (k - 1) f) := fun f hc => by
    have g : ∀ j, -1 ≤ j → j ≤ k → Vr h1 j f = Vr h j f := fun j j0 j1 => by
      by_cases z : j = -1
      · rw [z, Vr_1, Vr_1]
      · rw [Vr_k (by omega), Vr_k (by omega)]; exact hf f j hc (by omega) j1
    rw [g k (by omega) (by omega), g (k - 1) (by omega) (by omega)]
  obtain ⟨⟨w1, w2⟩, w3⟩ := hw
  refine ⟨⟨fun hb => by rw [e k (by omega) (by omega)]; exact w1 hb, fun hb => ?_⟩, by rw [e k (by omega) (by omega)]; exact w3⟩
  rw [e k (by omega) (by omega)]
  obtain ⟨a1, a2, a3⟩ := w2 hb
  exact ⟨a1, a2.imp id (fun ⟨f, f1, f2⟩ => ⟨f, f1, by rw [ef f f1]; exact f2⟩), fun f hc => by rw [ef f hc]; exact a3 f hc⟩
theorem WAk_of {N : mN} {b : Int} {h h1 : mH} {o : mF} {m i k v base : Int} (hV : NV N) (hS : Sr N o m (nN N)) (i0 : 0 ≤ i) (i1 : i < m) (k0 : 0 ≤ k) (k1 : k < 120) (hB : base = if dst N (o i) = b then ar N (o i) else 9999) (hL : SWr h N (o i) k base (fun f => ∃ q, 0 ≤ q ∧ q < i ∧ o q = f) v) (hp : ∀ q j, 0 ≤ q → q < i → 0 ≤ j → j ≤ k → Vr h j (o q) = 9999 ∨ ar N (o q) ≤ Vr h j (o q) ∧ Vr h j (o q) ≤ 1700) (e1 : h1 78 (120 * o i + k) = v) (e2 : ∀ f j, Cf N (o i) f → 0 ≤ j → j ≤ k → h1 78 (120 * f + j) = h 78 (120 * f + j)) : WAk N b h1 (o i) k := by
  have hd := (hS.2.1 i i0 i1).1
  have hv := hV.2.2.1 _ hd
  have ek : Vr h1 k (o i) = v := by rw [Vr_k k0]; exact e1
  have cf : ∀ f, Cf N (o i) f → ∃ q, 0 ≤ q ∧ q < i ∧ o q = f := fun f hc => hS.jlt hV i0 i1 hc.1 hc.2.1 hc.2.2.1
  have vb : ∀ f j, Cf N (o i) f → -1 ≤ j → j ≤ k → Vr h j f = 9999 ∨ ar N f ≤ Vr h j f ∧ Vr h j f ≤ 1700 := fun f j hc j0 j1 => by
    by_cases z : j = -1
    · left; rw [z, Vr_1]
    · obtain ⟨q, q0, q1, rfl⟩ := cf f hc
      exact hp q j q0 q1 (by omega) j1
  have ef : ∀ f, Cf N (o i) f → Vr h (k - tn N (o i) f) f = (if ln N (o i) = ln N f then Vr h1 k f else Vr h1 (k - 1) f) := fun f hc => by
    have g : ∀ j, -1 ≤ j → j ≤ k → Vr h1 j f = Vr h j f := fun j j0 j1 => by
      by_cases z : j = -1
      · rw [z, Vr_1, Vr_1]
      · rw [Vr_k (by omega), Vr_k (by omega)]; exact e2 f j hc (by omega) j1
    rw [Vr_t, g k (by omega) (by omega), g (k - 1) (by omega) (by omega)]
  have bnd : ∀ f, Cf N (o i) f → Vr h (k - tn N (o i) f) f = 9999 ∨ ar N (o i) < Vr h (k - tn N (o i) f) f ∧ Vr h (k - tn N (o i) f) f ≤ 1700 := fun f hc => by
    have ht := tn_b N (o i) f
    have y := vb f (k - tn N (o i) f) hc (by omega) (by omega)
    have j := hc.2.2.1.1
    have v2 := hV.2.2.1 f hc.1
    omega
  by_cases hb : dst N (o i) = b
  · rw [if_pos hb] at hB
    have hv' : v = ar N (o i) := by
      rcases hL.2.1 with z | ⟨f, -, z1, z2⟩
      · omega
      · have := bnd f z1
        have := hL.1
        omega
    refine ⟨⟨fun _ => by rw [ek]; exact hv', fun z => absurd hb z⟩, ?_⟩
    rw [ek]; right; omega
  · rw [if_neg hb] at hB
    refine ⟨⟨fun z => absurd z hb, fun _ => ?_⟩, ?_⟩
    · rw [ek]
      refine ⟨by have := hL.1; omega, ?_, fun f hc => ?_⟩
      · rcases hL.2.1 with z | ⟨f, -, z1, z2⟩
        · left; omega
        · exact Or.inr ⟨f, z1, by rw [← ef f z1]; exact z2⟩
      · rw [← ef f hc]; exact hL.2.2 f (cf f hc) hc
    · rw [ek]
      rcases hL.2.1 with z | ⟨f, -, z1, z2⟩
      · left; omega
      · have := bnd f z1
        omega
abbrev wiC : List Nat := [64, 77, 78]
def wiI (N : mN) (b K0 : Int) (o : mF) (h : mH) (i : Int) : Prop := ∀ j k, 0 ≤ j → j < i → 0 ≤ k → k ≤ K0 → WAk N b h (o j) k
set_option maxRecDepth 100000 in
set_option maxHeartbeats 2000000 in
theorem Mo_withinK (N : mN) (b K0 i : Int) (X : mX) (h0 : mH) (r : mR) (hM : isM h0 N) (o : mF) (m : Int) (hS : Sr N o m (nN N)) (i0 : 0 ≤ i) (i1 : i < m) (e77 : h0 77 = o) (hK0 : 0 ≤ K0 ∧ K0 < 120) (hA : wiI N b K0 o h0 i) (K : ∀ (h2 : mH) (k : Int) (x6 x7 x8 x9 : Option mV), (match x6 with | some (.inr (.inl _)) => false | _ => true) = true → (match x7 with | some (.inr (.inl _)) => false | _ => true) = true → fr [78] h0 h2 → wiI N b K0 o h2 (i + 1) → WP (true, rm 5) m_Mo_laysWithin X 166 [some (vR 64), some (vI b), some (vI K0), some (vI i), some (vI (o i)), some (vI k), x6, x7, x8, x9] [] h2 r (0, 0)) : ∀ (M : Nat) (k : Int) (h1 : mH) (x6 x7 x8 x9 : Option mV), (K0 + 1 - k).toNat = M → 0 ≤ k → k ≤ K0 + 1 → fr [78] h0 h1 → (∀ x, (∀ j, 0 ≤ j → j < k → x ≠ 120 * o i + j) → h1 78 x = h0 78 x) → (∀ j, 0 ≤ j → j < k → WAk N b h1 (o i) j) → (match x6 with | some (.inr (.inl _)) => false | _ => true) = true → (match x7 with | some (.inr (.inl _)) => false | _ => true) = true → WP (true, rm 5) m_Mo_laysWithin X 25 [some (vR 64), some (vI b), some (vI K0), some (vI i), some (vI (o i)), some (vI k), x6, x7, x8, x9] [] h1 r (0, 0) := by
  intro M
  induction M using Nat.strongRecOn with
  | ind M ih =>
    intro k h1 x6 x7 x8 x9 hN k0 k1 hf ho hw p6 p7
    have hV := hM.1
    have hn := hV.1
    have hm := hS.1
    have hoi := (hS.2.1 i i0 i1).1
    have hM1 := isM_f hM hf (by decide)
    have z := hM1.2.2.2.1 (o i) hoi
    have hv := hV.2.2.1 (o i) hoi
    have e77' : h1 77 = o := by rw [hf 77 (by decide)]; exact e77
    have oth : ∀ q j, 0 ≤ q → q < i → 0 ≤ j → j < 120 → h1 78 (120 * o q + j) = h0 78 (120 * o q + j) := fun q j q0 q1 j0 j1 => by
      have hne := (hS.2.2.1 q i q0 q1 i1).2
      exact ho _ (fun y y0 y1 => by omega)
    have fin : ∀ (v base : Int) (y8 y9 : Option mV), (base = if dst N (o i) = b then ar N (o i) else 9999) → k ≤ K0 → SWr h1 N (o i) k base (fun f => ∃ q, 0 ≤ q ∧ q < i ∧ o q = f) v → WP (true, rm 5) m_Mo_laysWithin X 145 [some (vR 64), some (vI b), some (vI K0), some (vI i), some (vI (o i)), some (vI k), some (vI v), some (vI i), y8, y9] [] h1 r (0, 0) := fun v base y8 y9 hbase hk hL => by
      have hp : ∀ q j, 0 ≤ q → q < i → 0 ≤ j → j ≤ k → Vr h1 j (o q) = 9999 ∨ ar N (o q) ≤ Vr h1 j (o q) ∧ Vr h1 j (o q) ≤ 1700 := fun q j q0 q1 j0 j1 => by
        rw [Vr_k j0, oth q j q0 q1 j0 (by omega), ← Vr_k (h := h0) j0]
        exact (hA q j q0 q1 j0 (by omega)).2
      refine wq_aload_n (kk := 0) (q := 146) rfl rfl rfl ?_
      refine wq_getF (q := 149) f_Mo_54 rfl rfl (Nat.le_of_ble_eq_true rfl) rfl rfl rfl ?_
      refine wq_bipush (n := 120) (q := 151) rfl rfl rfl ?_
      refine wq_iload (i := 4) (q := 153) rfl rfl rfl ?_
      refine wq_imul (q := 154) rfl rfl (by first | omega | (simp [hup]; omega)) (by first | omega | (simp [hup]; omega)) ?_
      refine wq_iload (i := 5) (q := 156) rfl rfl rfl ?_
      refine wq_iadd (q := 157) rfl rfl (by first | omega | (simp [hup]; omega)) (by first | omega | (simp [hup]; omega)) ?_
      refine wq_iload (i := 6) (q := 159) rfl rfl rfl ?_
      refine wq_iast (q := 160) rfl (Or.inl ⟨rfl, Nat.le_of_ble_eq_true rfl⟩) rfl rfl (by first | omega | (simp [hup]; omega)) (by first | omega | (simp [hup]; omega)) ?_
      refine wq_iinc (i := 5) (n := 1) (q := 163) rfl rfl rfl (Nat.le_of_ble_eq_true rfl) rfl (by first | omega | (simp [hup]; omega)) (by first | omega | (simp [hup]; omega)) ?_
      refine wq_goto (tgt := 25) rfl rfl ?_
      have ne : ∀ f j, Cf N (o i) f → 0 ≤ j → j ≤ k → 120 * f + j ≠ 120 * o i + k := fun f j hc j0 j1 e => by
        have := J.ne hV hoi hc.2.2.1
        omega
      refine ih _ (by omega) (k + 1) _ _ _ _ _ rfl (by omega) (by omega) (hf.up (by decide)) (fun x hx => ?_) (fun j j0 j1 => ?_) rfl rfl
      · rw [hup_j (hx k k0 (by omega))]
        exact ho x (fun j j0 j1 => hx j j0 (by omega))
      · by_cases e : j = k
        · subst e
          exact WAk_of hV hS i0 i1 k0 (by omega) hbase hL hp hup_s (fun f j' hc j0' j1' => hup_j (ne f j' hc j0' j1'))
        · refine WAk_c j0 (by omega) (hw j j0 (by omega)) (fun j' j0' j1' => hup_j (by omega)) (fun f j' hc j0' j1' => hup_j (fun e => ?_))
          have := J.ne hV hoi hc.2.2.1
          omega
    refine wq_iload (i := 5) (q := 27) rfl rfl rfl ?_
    refine wq_iload_n (kk := 2) (q := 28) rfl rfl rfl ?_
    refine wq_icmp_gt (tgt := 166) (q := 31) rfl rfl rfl (fun c28 => ?_) (fun c28 => ?_)
    · skip
      refine K h1 k x6 x7 x8 x9 p6 p7 hf (fun j k' j0 j1 k0' k1' => ?_)
      by_cases e : j = i
      · subst e; exact hw k' k0' (by omega)
      · refine WAk_c k0' (by omega) (hA j k' j0 (by omega) k0' k1') (fun j' j0' j1' => oth j j' j0 (by omega) j0' (by omega)) (fun f j' hc j0' j1' => ?_)
        obtain ⟨q, q0, q1, rfl⟩ := hS.jlt hV j0 (by omega) hc.1 hc.2.1 hc.2.2.1
        exact oth q j' q0 (by omega) j0' (by omega)
    · skip
      refine wq_aload_n (kk := 0) (q := 32) rfl rfl rfl ?_
      refine wq_getF (q := 35) f_Mo_17 rfl rfl (Nat.le_of_ble_eq_true rfl) rfl rfl rfl ?_
      refine wq_iload (i := 4) (q := 37) rfl rfl rfl ?_
      refine wq_iconst (n := 2) (q := 38) rfl rfl rfl ?_
      refine wq_callS (q := 41) (m' := m_Mo_at) (R' := rm 1) (As := [_, _]) rfl rfl l_Mo_209 sm_Mo_at rfl (Nat.le_of_ble_eq_true rfl) (Nat.le_of_ble_eq_true rfl) (Nat.le_refl _) (Nat.le_refl _) (Nat.le_of_ble_eq_true rfl) (Mo_at_ok (o i) 2 h1 r (by omega) (by omega)) rfl ?_
      rintro rv h1 r ⟨rfl, rfl, rfl⟩ -
      refine wq_iald (q := 42) rfl (Or.inl ⟨rfl, Nat.le_of_ble_eq_true rfl⟩) rfl rfl (by first | omega | (simp [hup]; omega)) (by first | omega | (simp [hup]; omega)) ?_
      refine wq_iload_n (kk := 1) (q := 43) rfl rfl rfl ?_
      refine wq_icmp_ne (tgt := 55) (q := 46) rfl rfl rfl (fun c43 => ?_) (fun c43 => ?_)
      · skip
        refine wq_sipush (n := 9999) (q := 58) rfl rfl rfl ?_
        refine wq_istore (i := 6) (q := 60) rfl rfl (Nat.le_of_ble_eq_true rfl) rfl ?_
        refine wq_iconst (n := 0) (q := 61) rfl rfl rfl ?_
        refine wq_istore (i := 7) (q := 63) rfl rfl (Nat.le_of_ble_eq_true rfl) rfl ?_
        first
        | (have hb : dst N (o i) = b := by omega
           exact Mo_withinI N b K0 i k (ar N (o i)) X h1 r hM1 o m hS i0 i1 e77' (by omega) (by omega) (fun v y8 y9 hL => fin v _ y8 y9 (if_pos hb).symm (by omega) hL) _ 0 _ _ _ rfl (by omega) i0 ⟨Int.le_refl _, Or.inl rfl, fun f ⟨q, q0, q1, _⟩ => by omega⟩)
        | (have hb : dst N (o i) ≠ b := by omega
           exact Mo_withinI N b K0 i k 9999 X h1 r hM1 o m hS i0 i1 e77' (by omega) (by omega) (fun v y8 y9 hL => fin v _ y8 y9 (if_neg hb).symm (by omega) hL) _ 0 _ _ _ rfl (by omega) i0 ⟨Int.le_refl _, Or.inl rfl, fun f ⟨q, q0, q1, _⟩ => by omega⟩)
      · skip
        refine wq_aload_n (kk := 0) (q := 47) rfl rfl rfl ?_
        refine wq_iload (i := 4) (q := 49) rfl rfl rfl ?_
        refine wq_callV (q := 52) (m' := m_Mo_arrivesAt) (R' := rm 3) (As := [_]) rfl rfl l_Mo_272 vm_Mo_arrivesAt rfl rfl rfl (Or.inl ⟨rfl, Nat.le_of_ble_eq_true rfl⟩) (Nat.le_of_ble_eq_true rfl) (Nat.le_of_ble_eq_true rfl) (Nat.le_refl _) (Nat.le_refl _) (Nat.le_of_ble_eq_true rfl) (Mo_arrivesAt_ok N (o i) h1 r hM1 hoi) rfl ?_
        rintro rv h1 r ⟨rfl, rfl, rfl⟩ -
        refine wq_goto (tgt := 58) rfl rfl ?_
        refine wq_istore (i := 6) (q := 60) rfl rfl (Nat.le_of_ble_eq_true rfl) rfl ?_
        refine wq_iconst (n := 0) (q := 61) rfl rfl rfl ?_
        refine wq_istore (i := 7) (q := 63) rfl rfl (Nat.le_of_ble_eq_true rfl) rfl ?_
        first
        | (have hb : dst N (o i) = b := by omega
           exact Mo_withinI N b K0 i k (ar N (o i)) X h1 r hM1 o m hS i0 i1 e77' (by omega) (by omega) (fun v y8 y9 hL => fin v _ y8 y9 (if_pos hb).symm (by omega) hL) _ 0 _ _ _ rfl (by omega) i0 ⟨Int.le_refl _, Or.inl rfl, fun f ⟨q, q0, q1, _⟩ => by omega⟩)
        | (have hb : dst N (o i) ≠ b := by omega
           exact Mo_withinI N b K0 i k 9999 X h1 r hM1 o m hS i0 i1 e77' (by omega) (by omega) (fun v y8 y9 hL => fin v _ y8 y9 (if_neg hb).symm (by omega) hL) _ 0 _ _ _ rfl (by omega) i0 ⟨Int.le_refl _, Or.inl rfl, fun f ⟨q, q0, q1, _⟩ => by omega⟩)
set_option maxRecDepth 100000 in
set_option maxHeartbeats 2000000 in
theorem Mo_withinO (N : mN) (b K0 : Int) (h : mH) (r : mR) (hM : isM h N) (o : mF) (m : Int) (hS : Sr N o m (nN N)) (hK0 : 0 ≤ K0 ∧ K0 < 120) : ∀ (M : Nat) (i : Int) (h1 : mH) (x4 x5 x6 x7 x8 x9 : Option mV), (m - i).toNat = M → 0 ≤ i → i ≤ m → f64 [28] wiC h h1 → h1 77 = o → h1 64 28 = m → wiI N b K0 o h1 i → (match x4 with | some (.inr (.inl _)) => false | _ => true) = true → (match x5 with | some (.inr (.inl _)) => false | _ => true) = true → (match x6 with | some (.inr (.inl _)) => false | _ => true) = true → (match x7 with | some (.inr (.inl _)) => false | _ => true) = true → WP (true, rm 5) m_Mo_laysWithin (rt m_Mo_laysWithin (rm 5) (fun rv h2 r2 => rv = none ∧ r2 = r ∧ f64 [28] wiC h h2 ∧ Vt N b 9999 (Vr h2) K0)) 6 [some (vR 64), some (vI b), some (vI K0), some (vI i), x4, x5, x6, x7, x8, x9] [] h1 r (0, 0) := by
  intro M
  induction M using Nat.strongRecOn with
  | ind M ih =>
    intro i h1 x4 x5 x6 x7 x8 x9 hN i0 i1 hf e77 e28 hA p4 p5 p6 p7
    have hV := hM.1
    have hn := hV.1
    have hm := hS.1
    have hM1 := isM_f hM hf.1 (by decide)
    have e77' : h1 77 i = o i := by rw [e77]
    refine wq_iload_n (kk := 3) (q := 7) rfl rfl rfl ?_
    refine wq_aload_n (kk := 0) (q := 8) rfl rfl rfl ?_
    refine wq_getI (kz := 28) (q := 11) rfl f_Mo_275 rfl rfl (Or.inl ⟨rfl, Nat.le_of_ble_eq_true rfl⟩) rfl rfl ?_
    refine wq_icmp_ge (tgt := 172) (q := 14) rfl rfl rfl (fun c11 => ?_) (fun c11 => ?_)
    · skip
      have ei : i = m := by omega
      subst ei
      refine wq_vret rfl rfl (Nat.le_refl _) (Nat.le_refl _) ⟨rfl, rfl, hf, fun d => Vr_1, fun k k0 k1 d hd hr => ?_⟩
      obtain ⟨q, q0, q1, rfl⟩ := hS.2.2.2 d hd.1 hd.2 hr
      exact (hA q k q0 q1 k0 k1).1
    · skip
      refine wq_aload_n (kk := 0) (q := 15) rfl rfl rfl ?_
      refine wq_getF (q := 18) f_Mo_51 rfl rfl (Nat.le_of_ble_eq_true rfl) rfl rfl rfl ?_
      refine wq_iload_n (kk := 3) (q := 19) rfl rfl rfl ?_
      refine wq_iald (q := 20) rfl (Or.inl ⟨rfl, Nat.le_of_ble_eq_true rfl⟩) rfl rfl (by first | omega | (simp [hup]; omega)) (by first | omega | (simp [hup]; omega)) ?_
      rw [e77']
      refine wq_istore (i := 4) (q := 22) rfl rfl (Nat.le_of_ble_eq_true rfl) rfl ?_
      refine wq_iconst (n := 0) (q := 23) rfl rfl rfl ?_
      refine wq_istore (i := 5) (q := 25) rfl rfl (Nat.le_of_ble_eq_true rfl) rfl ?_
      refine Mo_withinK N b K0 i _ h1 r hM1 o m hS i0 (by omega) e77 hK0 hA (fun h2 k y6 y7 y8 y9 q6 q7 f2 hA2 => ?_) _ 0 h1 _ _ _ _ rfl (by omega) (by omega) fr.rf (fun _ _ => rfl) (fun j j0 j1 => by omega) p6 p7
      refine wq_iinc (i := 3) (n := 1) (q := 169) rfl rfl rfl (Nat.le_of_ble_eq_true rfl) rfl (by omega) (by omega) ?_
      refine wq_goto (tgt := 6) rfl rfl ?_
      exact ih _ (by omega) (i + 1) h2 _ _ _ _ _ _ rfl (by omega) (by omega) (hf.tr (S' := []) (C' := [78]) ⟨f2, fun k _ => f2.at 64 k (by decide)⟩ (by decide) (by decide)) (by rw [f2 77 (by decide)]; exact e77) (by rw [f2.at 64 28 (by decide)]; exact e28) hA2 rfl rfl q6 q7
set_option maxRecDepth 100000 in
theorem Mo_laysWithin_ok (N : mN) (b K0 : Int) (h : mH) (r : mR) (hM : isM h N) (hK0 : 0 ≤ K0 ∧ K0 < 120) : Meets true (rm 5) m_Mo_laysWithin [vR 64, vI b, vI K0] h r (fun rv h2 r2 => rv = none ∧ r2 = r ∧ f64 [28] wiC h h2 ∧ Vt N b 9999 (Vr h2) K0) := by
  refine ⟨ok_Mo_laysWithin, Nat.le_of_ble_eq_true rfl, ?_⟩
  refine wq_aload_n (kk := 0) (q := 1) rfl rfl rfl ?_
  refine wq_callV (q := 4) (m' := m_Mo_sorts) (R' := rm 3) (As := []) rfl rfl l_Mo_278 vm_Mo_sorts rfl rfl rfl (Or.inl ⟨rfl, Nat.le_of_ble_eq_true rfl⟩) (Nat.le_of_ble_eq_true rfl) (Nat.le_of_ble_eq_true rfl) (Nat.le_refl _) (Nat.le_refl _) (Nat.le_of_ble_eq_true rfl) (Mo_sorts_ok N h r hM) rfl ?_
  rintro rv h1 r ⟨rfl, rfl, f1, hS⟩ -
  refine wq_iconst (n := 0) (q := 5) rfl rfl rfl ?_
  refine wq_istore_n (kk := 3) (q := 6) rfl rfl (Nat.le_of_ble_eq_true rfl) rfl ?_
  exact Mo_withinO N b K0 h r hM (h1 77) (h1 64 28) hS hK0 _ 0 h1 none none none none none none rfl (by omega) hS.1.1 (f1.mono (by decide) (by decide)) rfl rfl (fun j k j0 j1 => by omega) rfl rfl rfl rfl

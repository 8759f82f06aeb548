theorem nLate_NV {h : mH} (hD : DV h) {d k : Int} (hd : 0 ≤ d ∧ d < h 2 4) (hk : 0 ≤ k ∧ k ≤ 99) : NV (nLate (dN h 0) d k) := by
  have z := hD.2.2.1 d hd.1 hd.2
  refine nLate_V (dN_V hD 0) hk.1 ⟨?_, ?_⟩
  · show h 8 d + (if (0 : Int) = 0 then h 10 d else 0) + k ≤ 1500
    rw [if_pos rfl]; omega
  · show h 8 d + (if (0 : Int) = 0 then h 10 d else 0) + h 9 d + k ≤ 1700
    rw [if_pos rfl]; omega
set_option maxRecDepth 100000 in
set_option maxHeartbeats 1000000 in
theorem Fl_canRideL (M : mN) (d a t : Int) (h : mH) (r : mR) (hnde : r.1 31 7 = some 2) (hV : NV M) (hN : isN h M) (hd : dp M d) (hz : ¬ (frm M d = a ∧ t ≤ lv M d)) (hc : ∀ e, dp M e → h 50 e = 0 ∨ h 50 e = 1) : ∀ (K : Nat) (e : Int), (nN M - e).toNat = K → 0 ≤ e → e ≤ nN M → (∀ x, 0 ≤ x → x < e → ¬ (h 50 x = 1 ∧ rn M x = 1 ∧ dst M x = frm M d ∧ J M x d)) → WP (true, rm 3) m_Fl_canRide (rt m_Fl_canRide (rm 3) (pI (bI (cR M (h 50) d a t)) h r)) 33 [some (vR 48), some (vR 31), some (vI d), some (vI a), some (vI t), some (vI (frm M d)), some (vI e)] [] h r (0, 0) := by
  intro K
  induction K using Nat.strongRecOn with
  | ind K ih =>
    intro e hK e0 e1 hx
    have hn := hV.1
    have hS := hV.2.1
    have e31 := hN.1
    have hve := fun z : e < nN M => hV.2.2.1 e ⟨e0, z⟩
    have hne := fun z : e < nN M => hN.2.2.1 e ⟨e0, z⟩
    have hce := fun z : e < nN M => hc e ⟨e0, z⟩
    refine wq_iload (i := 6) (q := 35) rfl rfl rfl ?_
    refine wq_aload_n (kk := 1) (q := 36) rfl rfl rfl ?_
    refine wq_getI (kz := 0) (q := 39) rfl f_Fl_32 rfl rfl (Or.inl ⟨rfl, Nat.le_of_ble_eq_true rfl⟩) rfl rfl ?_
    refine wq_icmp_ge (tgt := 95) (q := 42) rfl rfl rfl (fun c39 => ?_) (fun c39 => ?_)
    · skip
      refine wq_iconst (n := 0) (q := 96) rfl rfl rfl ?_
      refine wq_zret rfl rfl (Nat.le_refl _) (Nat.le_refl _) (by omega) ?_
      first
        | exact pC_t (Or.inr ⟨e, ⟨e0, by omega⟩, (by have := hce (by omega); omega), (by have := hve (by omega); omega), (by omega), c84⟩)
        | (refine pC_f ?_
           rintro (z | ⟨x, x1, x2, x3, x4, x5⟩)
           · exact hz z
           · have x6 := x1.1
             have x7 := x1.2
             exact hx x x6 (by omega) ⟨x2, x3, x4, x5⟩)
    · skip
      refine wq_aload_n (kk := 0) (q := 43) rfl rfl rfl ?_
      refine wq_getF (q := 46) f_Fl_15 rfl rfl (Nat.le_of_ble_eq_true rfl) rfl rfl rfl ?_
      refine wq_iload (i := 6) (q := 48) rfl rfl rfl ?_
      refine wq_zald (q := 49) rfl (Or.inl ⟨rfl, Nat.le_of_ble_eq_true rfl⟩) rfl rfl (by first | omega | (simp [hup]; omega)) (by first | omega | (simp [hup]; omega)) ?_
      refine wq_if_eq (tgt := 89) (q := 52) rfl rfl rfl (fun c49 => ?_) (fun c49 => ?_)
      · skip
        refine wq_iinc (i := 6) (n := 1) (q := 92) rfl rfl rfl (Nat.le_of_ble_eq_true rfl) rfl (by first | omega | (simp [hup]; omega)) (by first | omega | (simp [hup]; omega)) ?_
        refine wq_goto (tgt := 33) rfl rfl ?_
        refine ih _ (by omega) (e + 1) rfl (by omega) (by omega) (fun x x0 x1 => ?_)
        by_cases ex : x = e
        · subst ex
          rintro ⟨z1, z2, z3, z4⟩
          first | omega | exact absurd z4 c84
        · exact hx x x0 (by omega)
      · skip
        refine wq_aload_n (kk := 1) (q := 53) rfl rfl rfl ?_
        refine wq_getF (q := 56) f_Fl_44 rfl rfl (Nat.le_of_ble_eq_true rfl) rfl rfl rfl ?_
        refine wq_iload (i := 6) (q := 58) rfl rfl rfl ?_
        refine wq_zald (q := 59) rfl (Or.inl ⟨rfl, Nat.le_of_ble_eq_true rfl⟩) rfl rfl (by first | omega | (simp [hup]; omega)) (by first | omega | (simp [hup]; omega)) ?_
        rw [(hne (by omega)).2.2.2.2.2]
        refine wq_if_eq (tgt := 89) (q := 62) rfl rfl rfl (fun c59 => ?_) (fun c59 => ?_)
        · skip
          refine wq_iinc (i := 6) (n := 1) (q := 92) rfl rfl rfl (Nat.le_of_ble_eq_true rfl) rfl (by first | omega | (simp [hup]; omega)) (by first | omega | (simp [hup]; omega)) ?_
          refine wq_goto (tgt := 33) rfl rfl ?_
          refine ih _ (by omega) (e + 1) rfl (by omega) (by omega) (fun x x0 x1 => ?_)
          by_cases ex : x = e
          · subst ex
            rintro ⟨z1, z2, z3, z4⟩
            first | omega | exact absurd z4 c84
          · exact hx x x0 (by omega)
        · skip
          refine wq_aload_n (kk := 1) (q := 63) rfl rfl rfl ?_
          refine wq_getR (q := 66) f_Fl_19 rfl rfl (Or.inl ⟨rfl, Nat.le_of_ble_eq_true rfl⟩) hnde rfl rfl ?_
          refine wq_getF (q := 69) f_Fl_51 rfl rfl (Nat.le_of_ble_eq_true rfl) rfl rfl rfl ?_
          refine wq_iload (i := 6) (q := 71) rfl rfl rfl ?_
          refine wq_iald (q := 72) rfl (Or.inl ⟨rfl, Nat.le_of_ble_eq_true rfl⟩) rfl rfl (by first | omega | (simp [hup]; omega)) (by first | omega | (simp [hup]; omega)) ?_
          rw [(hne (by omega)).2.2.2.1]
          refine wq_iload (i := 5) (q := 74) rfl rfl rfl ?_
          refine wq_icmp_ne (tgt := 89) (q := 77) rfl rfl rfl (fun c74 => ?_) (fun c74 => ?_)
          · skip
            refine wq_iinc (i := 6) (n := 1) (q := 92) rfl rfl rfl (Nat.le_of_ble_eq_true rfl) rfl (by first | omega | (simp [hup]; omega)) (by first | omega | (simp [hup]; omega)) ?_
            refine wq_goto (tgt := 33) rfl rfl ?_
            refine ih _ (by omega) (e + 1) rfl (by omega) (by omega) (fun x x0 x1 => ?_)
            by_cases ex : x = e
            · subst ex
              rintro ⟨z1, z2, z3, z4⟩
              first | omega | exact absurd z4 c84
            · exact hx x x0 (by omega)
          · skip
            refine wq_aload_n (kk := 1) (q := 78) rfl rfl rfl ?_
            refine wq_iload (i := 6) (q := 80) rfl rfl rfl ?_
            refine wq_iload_n (kk := 2) (q := 81) rfl rfl rfl ?_
            refine wq_callV (q := 84) (m' := m_Ne_joins) (R' := rm 2) (As := [_, _]) rfl rfl l_Fl_54 vm_Ne_joins rfl rfl rfl (Or.inl ⟨rfl, Nat.le_of_ble_eq_true rfl⟩) (Nat.le_of_ble_eq_true rfl) (Nat.le_of_ble_eq_true rfl) (Nat.le_refl _) (Nat.le_refl _) (Nat.le_of_ble_eq_true rfl) (Ne_joins_ok M e d h r hnde hV hN ⟨e0, by omega⟩ hd) rfl ?_
            rintro rv h r ⟨rfl, rfl, rfl⟩ -
            refine wq_cif_eq (tgt := 89) (q := 87) rfl rfl rfl (fun c84 => ?_) (fun c84 => ?_)
            · skip
              refine wq_iinc (i := 6) (n := 1) (q := 92) rfl rfl rfl (Nat.le_of_ble_eq_true rfl) rfl (by first | omega | (simp [hup]; omega)) (by first | omega | (simp [hup]; omega)) ?_
              refine wq_goto (tgt := 33) rfl rfl ?_
              refine ih _ (by omega) (e + 1) rfl (by omega) (by omega) (fun x x0 x1 => ?_)
              by_cases ex : x = e
              · subst ex
                rintro ⟨z1, z2, z3, z4⟩
                first | omega | exact absurd z4 c84
              · exact hx x x0 (by omega)
            · skip
              refine wq_iconst (n := 1) (q := 88) rfl rfl rfl ?_
              refine wq_zret rfl rfl (Nat.le_refl _) (Nat.le_refl _) (by omega) ?_
              first
                | exact pC_t (Or.inr ⟨e, ⟨e0, by omega⟩, (by have := hce (by omega); omega), (by have := hve (by omega); omega), (by omega), c84⟩)
                | (refine pC_f ?_
                   rintro (z | ⟨x, x1, x2, x3, x4, x5⟩)
                   · exact hz z
                   · have x6 := x1.1
                     have x7 := x1.2
                     exact hx x x6 (by omega) ⟨x2, x3, x4, x5⟩)
set_option maxRecDepth 100000 in
set_option maxHeartbeats 1000000 in
theorem Fl_canRide_ok (M : mN) (d a t : Int) (h : mH) (r : mR) (hnde : r.1 31 7 = some 2) (hV : NV M) (hN : isN h M) (hd : dp M d) (hc : ∀ e, dp M e → h 50 e = 0 ∨ h 50 e = 1) : Meets true (rm 3) m_Fl_canRide [vR 48, vR 31, vI d, vI a, vI t] h r (pI (bI (cR M (h 50) d a t)) h r) := by
  have hn := hV.1
  have hS := hV.2.1
  have hvd := hV.2.2.1 d hd
  have hnd := hN.2.2.1 d hd
  obtain ⟨d0, d1⟩ := id hd
  refine ⟨ok_Fl_canRide, Nat.le_of_ble_eq_true rfl, ?_⟩
  refine wq_aload_n (kk := 1) (q := 1) rfl rfl rfl ?_
  refine wq_getR (q := 4) f_Fl_19 rfl rfl (Or.inl ⟨rfl, Nat.le_of_ble_eq_true rfl⟩) hnde rfl rfl ?_
  refine wq_getF (q := 7) f_Fl_35 rfl rfl (Nat.le_of_ble_eq_true rfl) rfl rfl rfl ?_
  refine wq_iload_n (kk := 2) (q := 8) rfl rfl rfl ?_
  refine wq_iald (q := 9) rfl (Or.inl ⟨rfl, Nat.le_of_ble_eq_true rfl⟩) rfl rfl (by first | omega | (simp [hup]; omega)) (by first | omega | (simp [hup]; omega)) ?_
  rw [hnd.2.2.1]
  refine wq_istore (i := 5) (q := 11) rfl rfl (Nat.le_of_ble_eq_true rfl) rfl ?_
  refine wq_iload (i := 5) (q := 13) rfl rfl rfl ?_
  refine wq_iload_n (kk := 3) (q := 14) rfl rfl rfl ?_
  refine wq_icmp_ne (tgt := 30) (q := 17) rfl rfl rfl (fun c14 => ?_) (fun c14 => ?_)
  · skip
    refine wq_iconst (n := 0) (q := 31) rfl rfl rfl ?_
    refine wq_istore (i := 6) (q := 33) rfl rfl (Nat.le_of_ble_eq_true rfl) rfl ?_
    exact Fl_canRideL M d a t h r hnde hV hN hd (by omega) hc _ 0 rfl (by omega) (by omega) (fun x x0 x1 => by omega)
  · skip
    refine wq_aload_n (kk := 1) (q := 18) rfl rfl rfl ?_
    refine wq_getF (q := 21) f_Fl_38 rfl rfl (Nat.le_of_ble_eq_true rfl) rfl rfl rfl ?_
    refine wq_iload_n (kk := 2) (q := 22) rfl rfl rfl ?_
    refine wq_iald (q := 23) rfl (Or.inl ⟨rfl, Nat.le_of_ble_eq_true rfl⟩) rfl rfl (by first | omega | (simp [hup]; omega)) (by first | omega | (simp [hup]; omega)) ?_
    rw [hnd.1]
    refine wq_iload (i := 4) (q := 25) rfl rfl rfl ?_
    refine wq_icmp_lt (tgt := 30) (q := 28) rfl rfl rfl (fun c25 => ?_) (fun c25 => ?_)
    · skip
      refine wq_iconst (n := 0) (q := 31) rfl rfl rfl ?_
      refine wq_istore (i := 6) (q := 33) rfl rfl (Nat.le_of_ble_eq_true rfl) rfl ?_
      exact Fl_canRideL M d a t h r hnde hV hN hd (by omega) hc _ 0 rfl (by omega) (by omega) (fun x x0 x1 => by omega)
    · skip
      refine wq_iconst (n := 1) (q := 29) rfl rfl rfl ?_
      refine wq_zret rfl rfl (Nat.le_refl _) (Nat.le_refl _) (by omega) ?_
      exact pC_t (Or.inl ⟨by omega, by omega⟩)
set_option maxRecDepth 100000 in
set_option maxHeartbeats 1000000 in
theorem Se_getsThereL (M : mN) (d b y : Int) (h : mH) (r : mR) (hnde : r.1 31 7 = some 2) (hV : NV M) (hN : isN h M) (hG : isH h M) (hd : dp M d) (hb : dst M d ≠ b) : ∀ (K : Nat) (p : Int) (w : Option mV), (h 37 (dst M d + 1) - p).toNat = K → h 37 (dst M d) ≤ p → p ≤ h 37 (dst M d + 1) → (∀ q, h 37 (dst M d) ≤ q → q < p → ¬ (h 44 (h 36 q) ≤ y ∧ J M d (h 36 q))) → WP (true, rm 3) m_Se_getsThere (rt m_Se_getsThere (rm 3) (pI (bI (gT M (h 44) d b y)) h r)) 43 [some (vR 40), some (vR 31), some (vI d), some (vI b), some (vI y), some (vI (dst M d)), some (vI p), w] [] h r (0, 0) := by
  intro K
  induction K using Nat.strongRecOn with
  | ind K ih =>
    intro p w hK p0 p1 hx
    have hn := hV.1
    have hS := hV.2.1
    have hvd := hV.2.2.1 d hd
    have g1 := hG.1 (dst M d) (by omega) (by omega)
    have gd : p < h 37 (dst M d + 1) → dp M (h 36 p) ∧ frm M (h 36 p) = dst M d := fun z => hG.2.1 (dst M d) p (by omega) (by omega) p0 z
    refine wq_iload (i := 6) (q := 45) rfl rfl rfl ?_
    refine wq_aload_n (kk := 1) (q := 46) rfl rfl rfl ?_
    refine wq_getF (q := 49) f_Se_94 rfl rfl (Nat.le_of_ble_eq_true rfl) rfl rfl rfl ?_
    refine wq_iload (i := 5) (q := 51) rfl rfl rfl ?_
    refine wq_iconst (n := 1) (q := 52) rfl rfl rfl ?_
    refine wq_iadd (q := 53) rfl rfl (by first | omega | (have z := gd (by omega); have z1 := z.1.1; have z2 := z.1.2; omega)) (by first | omega | (have z := gd (by omega); have z1 := z.1.1; have z2 := z.1.2; omega)) ?_
    refine wq_iald (q := 54) rfl (Or.inl ⟨rfl, Nat.le_of_ble_eq_true rfl⟩) rfl rfl (by first | omega | (have z := gd (by omega); have z1 := z.1.1; have z2 := z.1.2; omega)) (by first | omega | (have z := gd (by omega); have z1 := z.1.1; have z2 := z.1.2; omega)) ?_
    refine wq_icmp_ge (tgt := 96) (q := 57) rfl rfl rfl (fun c54 => ?_) (fun c54 => ?_)
    · skip
      refine wq_iconst (n := 0) (q := 97) rfl rfl rfl ?_
      refine wq_zret rfl rfl (Nat.le_refl _) (Nat.le_refl _) (by omega) ?_
      first
        | exact pC_t (Or.inr ⟨hb, h 36 p, (gd (by omega)).1, (gd (by omega)).2, (by omega), c85⟩)
        | (refine pC_f ?_
           rintro (z | ⟨-, x, x1, x2, x3, x4⟩)
           · exact hb z.1
           · obtain ⟨q, q0, q1, rfl⟩ := hG.2.2 x x1
             rw [x2] at q0 q1
             exact hx q q0 (by omega) ⟨x3, x4⟩)
    · skip
      refine wq_aload_n (kk := 1) (q := 58) rfl rfl rfl ?_
      refine wq_getF (q := 61) f_Se_97 rfl rfl (Nat.le_of_ble_eq_true rfl) rfl rfl rfl ?_
      refine wq_iload (i := 6) (q := 63) rfl rfl rfl ?_
      refine wq_iald (q := 64) rfl (Or.inl ⟨rfl, Nat.le_of_ble_eq_true rfl⟩) rfl rfl (by first | omega | (have z := gd (by omega); have z1 := z.1.1; have z2 := z.1.2; omega)) (by first | omega | (have z := gd (by omega); have z1 := z.1.1; have z2 := z.1.2; omega)) ?_
      refine wq_istore (i := 7) (q := 66) rfl rfl (Nat.le_of_ble_eq_true rfl) rfl ?_
      refine wq_aload_n (kk := 0) (q := 67) rfl rfl rfl ?_
      refine wq_getF (q := 70) f_Se_22 rfl rfl (Nat.le_of_ble_eq_true rfl) rfl rfl rfl ?_
      refine wq_iload (i := 7) (q := 72) rfl rfl rfl ?_
      refine wq_iald (q := 73) rfl (Or.inl ⟨rfl, Nat.le_of_ble_eq_true rfl⟩) rfl rfl (by first | omega | (have z := gd (by omega); have z1 := z.1.1; have z2 := z.1.2; omega)) (by first | omega | (have z := gd (by omega); have z1 := z.1.1; have z2 := z.1.2; omega)) ?_
      refine wq_iload (i := 4) (q := 75) rfl rfl rfl ?_
      refine wq_icmp_gt (tgt := 90) (q := 78) rfl rfl rfl (fun c75 => ?_) (fun c75 => ?_)
      · skip
        refine wq_iinc (i := 6) (n := 1) (q := 93) rfl rfl rfl (Nat.le_of_ble_eq_true rfl) rfl (by first | omega | (have z := gd (by omega); have z1 := z.1.1; have z2 := z.1.2; omega)) (by first | omega | (have z := gd (by omega); have z1 := z.1.1; have z2 := z.1.2; omega)) ?_
        refine wq_goto (tgt := 43) rfl rfl ?_
        refine ih _ (by omega) (p + 1) _ rfl (by omega) (by omega) (fun q q0 q1 => ?_)
        by_cases eq : q = p
        · subst eq
          rintro ⟨z1, z2⟩
          first | omega | exact absurd z2 c85
        · exact hx q q0 (by omega)
      · skip
        refine wq_aload_n (kk := 1) (q := 79) rfl rfl rfl ?_
        refine wq_iload_n (kk := 2) (q := 80) rfl rfl rfl ?_
        refine wq_iload (i := 7) (q := 82) rfl rfl rfl ?_
        refine wq_callV (q := 85) (m' := m_Ne_joins) (R' := rm 2) (As := [_, _]) rfl rfl l_Se_100 vm_Ne_joins rfl rfl rfl (Or.inl ⟨rfl, Nat.le_of_ble_eq_true rfl⟩) (Nat.le_of_ble_eq_true rfl) (Nat.le_of_ble_eq_true rfl) (Nat.le_refl _) (Nat.le_refl _) (Nat.le_of_ble_eq_true rfl) (Ne_joins_ok M d (h 36 p) h r hnde hV hN hd (gd (by omega)).1) rfl ?_
        rintro rv h r ⟨rfl, rfl, rfl⟩ -
        refine wq_cif_eq (tgt := 90) (q := 88) rfl rfl rfl (fun c85 => ?_) (fun c85 => ?_)
        · skip
          refine wq_iinc (i := 6) (n := 1) (q := 93) rfl rfl rfl (Nat.le_of_ble_eq_true rfl) rfl (by first | omega | (have z := gd (by omega); have z1 := z.1.1; have z2 := z.1.2; omega)) (by first | omega | (have z := gd (by omega); have z1 := z.1.1; have z2 := z.1.2; omega)) ?_
          refine wq_goto (tgt := 43) rfl rfl ?_
          refine ih _ (by omega) (p + 1) _ rfl (by omega) (by omega) (fun q q0 q1 => ?_)
          by_cases eq : q = p
          · subst eq
            rintro ⟨z1, z2⟩
            first | omega | exact absurd z2 c85
          · exact hx q q0 (by omega)
        · skip
          refine wq_iconst (n := 1) (q := 89) rfl rfl rfl ?_
          refine wq_zret rfl rfl (Nat.le_refl _) (Nat.le_refl _) (by omega) ?_
          first
            | exact pC_t (Or.inr ⟨hb, h 36 p, (gd (by omega)).1, (gd (by omega)).2, (by omega), c85⟩)
            | (refine pC_f ?_
               rintro (z | ⟨-, x, x1, x2, x3, x4⟩)
               · exact hb z.1
               · obtain ⟨q, q0, q1, rfl⟩ := hG.2.2 x x1
                 rw [x2] at q0 q1
                 exact hx q q0 (by omega) ⟨x3, x4⟩)
set_option maxRecDepth 100000 in
set_option maxHeartbeats 1000000 in
theorem Se_getsThere_ok (M : mN) (d b y : Int) (h : mH) (r : mR) (hnde : r.1 31 7 = some 2) (hV : NV M) (hN : isN h M) (hG : isH h M) (hd : dp M d) : Meets true (rm 3) m_Se_getsThere [vR 40, vR 31, vI d, vI b, vI y] h r (pI (bI (gT M (h 44) d b y)) h r) := by
  have hn := hV.1
  have hS := hV.2.1
  have hvd := hV.2.2.1 d hd
  have hnd := hN.2.2.1 d hd
  have g1 := hG.1 (dst M d) (by omega) (by omega)
  obtain ⟨d0, d1⟩ := id hd
  refine ⟨ok_Se_getsThere, Nat.le_of_ble_eq_true rfl, ?_⟩
  refine wq_aload_n (kk := 1) (q := 1) rfl rfl rfl ?_
  refine wq_getR (q := 4) f_Se_46 rfl rfl (Or.inl ⟨rfl, Nat.le_of_ble_eq_true rfl⟩) hnde rfl rfl ?_
  refine wq_getF (q := 7) f_Se_88 rfl rfl (Nat.le_of_ble_eq_true rfl) rfl rfl rfl ?_
  refine wq_iload_n (kk := 2) (q := 8) rfl rfl rfl ?_
  refine wq_iald (q := 9) rfl (Or.inl ⟨rfl, Nat.le_of_ble_eq_true rfl⟩) rfl rfl (by first | omega | (simp [hup]; omega)) (by first | omega | (simp [hup]; omega)) ?_
  rw [hnd.2.2.2.1]
  refine wq_istore (i := 5) (q := 11) rfl rfl (Nat.le_of_ble_eq_true rfl) rfl ?_
  refine wq_iload (i := 5) (q := 13) rfl rfl rfl ?_
  refine wq_iload_n (kk := 3) (q := 14) rfl rfl rfl ?_
  refine wq_icmp_ne (tgt := 34) (q := 17) rfl rfl rfl (fun c14 => ?_) (fun c14 => ?_)
  · skip
    refine wq_aload_n (kk := 1) (q := 35) rfl rfl rfl ?_
    refine wq_getF (q := 38) f_Se_94 rfl rfl (Nat.le_of_ble_eq_true rfl) rfl rfl rfl ?_
    refine wq_iload (i := 5) (q := 40) rfl rfl rfl ?_
    refine wq_iald (q := 41) rfl (Or.inl ⟨rfl, Nat.le_of_ble_eq_true rfl⟩) rfl rfl (by first | omega | (simp [hup]; omega)) (by first | omega | (simp [hup]; omega)) ?_
    refine wq_istore (i := 6) (q := 43) rfl rfl (Nat.le_of_ble_eq_true rfl) rfl ?_
    exact Se_getsThereL M d b y h r hnde hV hN hG hd c14 _ _ _ rfl (Int.le_refl _) (by omega) (fun q q0 q1 => by omega)
  · skip
    refine wq_aload_n (kk := 1) (q := 18) rfl rfl rfl ?_
    refine wq_getF (q := 21) f_Se_91 rfl rfl (Nat.le_of_ble_eq_true rfl) rfl rfl rfl ?_
    refine wq_iload_n (kk := 2) (q := 22) rfl rfl rfl ?_
    refine wq_iald (q := 23) rfl (Or.inl ⟨rfl, Nat.le_of_ble_eq_true rfl⟩) rfl rfl (by first | omega | (simp [hup]; omega)) (by first | omega | (simp [hup]; omega)) ?_
    rw [hnd.2.1]
    refine wq_iload (i := 4) (q := 25) rfl rfl rfl ?_
    refine wq_icmp_gt (tgt := 32) (q := 28) rfl rfl rfl (fun c25 => ?_) (fun c25 => ?_)
    · skip
      refine wq_iconst (n := 0) (q := 33) rfl rfl rfl ?_
      refine wq_zret rfl rfl (Nat.le_refl _) (Nat.le_refl _) (by omega) ?_
      first
        | exact pC_t (Or.inl ⟨by omega, by omega⟩)
        | (refine pC_f ?_
           rintro (z | z)
           · omega
           · exact z.1 (by omega))
    · skip
      refine wq_iconst (n := 1) (q := 29) rfl rfl rfl ?_
      refine wq_goto (tgt := 33) rfl rfl ?_
      refine wq_zret rfl rfl (Nat.le_refl _) (Nat.le_refl _) (by omega) ?_
      first
        | exact pC_t (Or.inl ⟨by omega, by omega⟩)
        | (refine pC_f ?_
           rintro (z | z)
           · omega
           · exact z.1 (by omega))
set_option maxRecDepth 100000 in
set_option maxHeartbeats 1000000 in
theorem Lt_slackL (a b t d e : Int) (h : mH) (r : mR) (hD : DV h) (hd : 0 ≤ d ∧ d < h 2 4) (he : e = sn (dN h 0) a t b) (hf : e ≠ 1000000) (hne : sn (nRun (dN h 0) d 0) a t b ≠ e) (P : Int → Int → Prop) (K : ∀ v, Sla (dN h 0) a b t d v → P v 0) : ∀ (M : Nat) (k : Int) (h1 : mH) (r1 : mR), (100 - k).toNat = M → 0 ≤ k → k ≤ 99 → qf h r h1 r1 → r1.1 31 7 = some 2 → isN h1 (nLate (nRun (dN h 0) d 0) d k) → isG h1 (nRun (dN h 0) d 0) → Ct (nRun (dN h 0) d 0) a t (h1 50) → aimed (nRun (dN h 0) d 0) b h1 → (∀ j, 1 ≤ j → j ≤ k → sn (nLate (dN h 0) d j) a t b ≤ e) → WP (true, rm 6) m_Lt_slack (rt m_Lt_slack (rm 6) (qP h r P)) 97 [some (vR 0), some (vI a), some (vI b), some (vI t), some (vI d), some (vI e), some (vI k)] [] h1 r1 (0, 0) := by
  have hV := dN_V hD 0
  have pre := slak_pre hV hd he hf hne
  intro M
  induction M using Nat.strongRecOn with
  | ind M ih =>
    intro k h1 r1 hM k0 k1 q1 hnde n1 G1 C1 A1 hi
    have hcur := q1.cur
    refine wq_iload (i := 6) (q := 99) rfl rfl rfl ?_
    refine wq_bipush (n := 99) (q := 101) rfl rfl rfl ?_
    refine wq_icmp_ge (tgt := 163) (q := 104) rfl rfl rfl (fun c101 => ?_) (fun c101 => ?_)
    · skip
      refine wq_aload_n (kk := 0) (q := 164) rfl rfl rfl ?_
      refine wq_bipush (n := 99) (q := 166) rfl rfl rfl ?_
      refine wq_callV (q := 169) (m' := m_Lt_answer) (R' := rm 1) (As := [_]) rfl rfl l_Lt_113 vm_Lt_answer rfl rfl rfl (Or.inl ⟨rfl, Nat.le_of_ble_eq_true rfl⟩) (Nat.le_of_ble_eq_true rfl) (Nat.le_of_ble_eq_true rfl) (Nat.le_refl _) (Nat.le_refl _) (Nat.le_of_ble_eq_true rfl) (Lt_answer_ok _ h1 r1) rfl ?_
      rintro rv h4 r1 ⟨rfl, rfl, rfl⟩ -
      refine wq_iret rfl rfl (Nat.le_refl _) (Nat.le_refl _) ⟨_, rfl, ?_, q1.put 0⟩
      rw [hup_s]
      exact K _ (Or.inr ⟨by omega, by omega, fun j j0 j1 => by rw [← he]; exact hi j j0 (by omega), Or.inl rfl⟩)
    · skip
      have hVk : NV (nLate (nRun (dN h 0) d 0) d k) := nRun_V (N := nLate (dN h 0) d k) (nLate_NV hD hd (by omega)) (Or.inl rfl)
      have hVn : NV (nLate (dN h 0) d (k + 1)) := nLate_NV hD hd (by omega)
      have hVs : NV (nLate (nRun (dN h 0) d 0) d (k + 1)) := nRun_V (N := nLate (dN h 0) d (k + 1)) hVn (Or.inl rfl)
      refine wq_aload_n (kk := 0) (q := 105) rfl rfl rfl ?_
      refine wq_getF (q := 108) f_Lt_44 rfl rfl (Nat.le_of_ble_eq_true rfl) rfl rfl rfl ?_
      refine wq_iload (i := 4) (q := 110) rfl rfl rfl ?_
      refine wq_callV (q := 113) (m' := m_Ne_putOff) (R' := rm 1) (As := [_]) rfl rfl l_Lt_312 vm_Ne_putOff rfl rfl rfl (Or.inl ⟨rfl, Nat.le_of_ble_eq_true rfl⟩) (Nat.le_of_ble_eq_true rfl) (Nat.le_of_ble_eq_true rfl) (Nat.le_refl _) (Nat.le_refl _) (Nat.le_of_ble_eq_true rfl) (Ne_putOff_ok (nLate (nRun (dN h 0) d 0) d k) d h1 r1 hVk n1 hd) rfl ?_
      rintro rv h2 r1 ⟨rfl, rfl, f2, n2⟩ -
      rw [nLate_s] at n2
      have q2 := q1.scr f2 (by decide)
      have G2 := G1.fr f2 (by decide) (by decide)
      have C2 : Ct (nRun (dN h 0) d 0) a t (h2 50) := C1.cg (f2 50 (by decide))
      have A2 : aimed (nRun (dN h 0) d 0) b h2 := by
        unfold aimed
        rw [f2 44 (by decide), f2 45 (by decide), f2 46 (by decide), f2 47 (by decide)]
        exact A1
      have key := slak_iff hV hVn hd pre.1 pre.2.1 pre.2.2.1 (by omega) C2 A2.1 (fun z hz hr => (A2.2 z hz).1 hr)
      refine wq_aload_n (kk := 0) (q := 114) rfl rfl rfl ?_
      refine wq_getF (q := 117) f_Lt_58 rfl rfl (Nat.le_of_ble_eq_true rfl) rfl rfl rfl ?_
      refine wq_aload_n (kk := 0) (q := 118) rfl rfl rfl ?_
      refine wq_getF (q := 121) f_Lt_44 rfl rfl (Nat.le_of_ble_eq_true rfl) rfl rfl rfl ?_
      refine wq_iload (i := 4) (q := 123) rfl rfl rfl ?_
      refine wq_iload_n (kk := 1) (q := 124) rfl rfl rfl ?_
      refine wq_iload_n (kk := 3) (q := 125) rfl rfl rfl ?_
      refine wq_callV (q := 128) (m' := m_Fl_canRide) (R' := rm 3) (As := [_, _, _, _]) rfl rfl l_Lt_315 vm_Fl_canRide rfl rfl rfl (Or.inl ⟨rfl, Nat.le_of_ble_eq_true rfl⟩) (Nat.le_of_ble_eq_true rfl) (Nat.le_of_ble_eq_true rfl) (Nat.le_refl _) (Nat.le_refl _) (Nat.le_of_ble_eq_true rfl) (Fl_canRide_ok (nLate (nRun (dN h 0) d 0) d (k + 1)) d a t h2 r1 hnde hVs n2 hd (fun e he => (C2 e he).2)) rfl ?_
      rintro rv h2 r1 ⟨rfl, rfl, rfl⟩ -
      refine wq_cif_eq (tgt := 150) (q := 131) rfl rfl rfl (fun c128 => ?_) (fun c128 => ?_)
      · skip
        refine wq_aload_n (kk := 0) (q := 151) rfl rfl rfl ?_
        refine wq_iload (i := 6) (q := 153) rfl rfl rfl ?_
        refine wq_callV (q := 156) (m' := m_Lt_answer) (R' := rm 1) (As := [_]) rfl rfl l_Lt_113 vm_Lt_answer rfl rfl rfl (Or.inl ⟨rfl, Nat.le_of_ble_eq_true rfl⟩) (Nat.le_of_ble_eq_true rfl) (Nat.le_of_ble_eq_true rfl) (Nat.le_refl _) (Nat.le_refl _) (Nat.le_of_ble_eq_true rfl) (Lt_answer_ok _ h2 r1) rfl ?_
        rintro rv h4 r1 ⟨rfl, rfl, rfl⟩ -
        refine wq_iret rfl rfl (Nat.le_refl _) (Nat.le_refl _) ⟨_, rfl, ?_, q2.put 0⟩
        rw [hup_s]
        have hgt : e < sn (nLate (dN h 0) d (k + 1)) a t b := Int.not_le.1 (fun z => by
          have w := key.1 z
          first | exact c147 w.2 | exact c128 w.1)
        exact K _ (Or.inr ⟨by omega, by omega, fun j j0 j1 => by rw [← he]; exact hi j j0 (by omega), Or.inr (by rw [← he]; exact hgt)⟩)
      · skip
        refine wq_aload_n (kk := 0) (q := 132) rfl rfl rfl ?_
        refine wq_getF (q := 135) f_Lt_51 rfl rfl (Nat.le_of_ble_eq_true rfl) rfl rfl rfl ?_
        refine wq_aload_n (kk := 0) (q := 136) rfl rfl rfl ?_
        refine wq_getF (q := 139) f_Lt_44 rfl rfl (Nat.le_of_ble_eq_true rfl) rfl rfl rfl ?_
        refine wq_iload (i := 4) (q := 141) rfl rfl rfl ?_
        refine wq_iload_n (kk := 2) (q := 142) rfl rfl rfl ?_
        refine wq_iload (i := 5) (q := 144) rfl rfl rfl ?_
        refine wq_callV (q := 147) (m' := m_Se_getsThere) (R' := rm 3) (As := [_, _, _, _]) rfl rfl l_Lt_318 vm_Se_getsThere rfl rfl rfl (Or.inl ⟨rfl, Nat.le_of_ble_eq_true rfl⟩) (Nat.le_of_ble_eq_true rfl) (Nat.le_of_ble_eq_true rfl) (Nat.le_refl _) (Nat.le_refl _) (Nat.le_of_ble_eq_true rfl) (Se_getsThere_ok (nLate (nRun (dN h 0) d 0) d (k + 1)) d b e h2 r1 hnde hVs n2 (G2.late d (k + 1)) hd) rfl ?_
        rintro rv h2 r1 ⟨rfl, rfl, rfl⟩ -
        refine wq_cif_ne (tgt := 157) (q := 150) rfl rfl rfl (fun c147 => ?_) (fun c147 => ?_)
        · skip
          refine wq_iinc (i := 6) (n := 1) (q := 160) rfl rfl rfl (Nat.le_of_ble_eq_true rfl) rfl (by first | omega | (simp [hup]; omega)) (by first | omega | (simp [hup]; omega)) ?_
          refine wq_goto (tgt := 97) rfl rfl ?_
          have hle := key.2 ⟨c128, c147⟩
          refine ih _ (by omega) (k + 1) _ _ rfl (by omega) (by omega) q2 hnde n2 G2 C2 A2 (fun j j0 j1 => ?_)
          by_cases ej : j = k + 1
          · subst ej; exact hle
          · exact hi j j0 (by omega)
        · skip
          refine wq_aload_n (kk := 0) (q := 151) rfl rfl rfl ?_
          refine wq_iload (i := 6) (q := 153) rfl rfl rfl ?_
          refine wq_callV (q := 156) (m' := m_Lt_answer) (R' := rm 1) (As := [_]) rfl rfl l_Lt_113 vm_Lt_answer rfl rfl rfl (Or.inl ⟨rfl, Nat.le_of_ble_eq_true rfl⟩) (Nat.le_of_ble_eq_true rfl) (Nat.le_of_ble_eq_true rfl) (Nat.le_refl _) (Nat.le_refl _) (Nat.le_of_ble_eq_true rfl) (Lt_answer_ok _ h2 r1) rfl ?_
          rintro rv h4 r1 ⟨rfl, rfl, rfl⟩ -
          refine wq_iret rfl rfl (Nat.le_refl _) (Nat.le_refl _) ⟨_, rfl, ?_, q2.put 0⟩
          rw [hup_s]
          have hgt : e < sn (nLate (dN h 0) d (k + 1)) a t b := Int.not_le.1 (fun z => by
            have w := key.1 z
            first | exact c147 w.2 | exact c128 w.1)
          exact K _ (Or.inr ⟨by omega, by omega, fun j j0 j1 => by rw [← he]; exact hi j j0 (by omega), Or.inr (by rw [← he]; exact hgt)⟩)
set_option maxRecDepth 100000 in
set_option maxHeartbeats 1000000 in
theorem Lt_slack_ok (a b t d : Int) (h : mH) (r : mR) (hI : IQ h r) : Meets true (rm 6) m_Lt_slack [vR 0, vI a, vI b, vI t, vI d] h r (qP h r (Ans (kD (h 2 1) a b (bI (isT t)) (h 2 4) d) (fun v tr => tr = 0 ∧ Sla (dN h 0) a b t d v))) := by
  have hcur := hI.2.2.2.1
  have q0 := qf.rf hI
  have hV := dN_V hI.1 0
  refine ⟨ok_Lt_slack, Nat.le_of_ble_eq_true rfl, ?_⟩
  refine wq_aload_n (kk := 0) (q := 1) rfl rfl rfl ?_
  refine wq_aload_n (kk := 0) (q := 2) rfl rfl rfl ?_
  refine wq_iload_n (kk := 1) (q := 3) rfl rfl rfl ?_
  refine wq_iload_n (kk := 2) (q := 4) rfl rfl rfl ?_
  refine wq_iload_n (kk := 3) (q := 5) rfl rfl rfl ?_
  refine wq_iload (i := 4) (q := 7) rfl rfl rfl ?_
  refine wq_callV (q := 10) (m' := m_Lt_lookAtHanging) (R' := rm 3) (As := [_, _, _, _]) rfl rfl l_Lt_302 vm_Lt_lookAtHanging rfl rfl rfl (Or.inl ⟨rfl, Nat.le_of_ble_eq_true rfl⟩) (Nat.le_of_ble_eq_true rfl) (Nat.le_of_ble_eq_true rfl) (Nat.le_refl _) (Nat.le_refl _) (Nat.le_of_ble_eq_true rfl) (Lt_lookAtHanging_ok a b t d h r hcur) rfl ?_
  rintro rv h r ⟨rfl, rfl, rfl⟩ -
  generalize hk : kD (h 2 1) a b (bI (isT t)) (h 2 4) d = k
  refine wq_callV (q := 13) (m' := m_Lt_isRefused) (R' := rm 1) (As := [_]) rfl rfl l_Lt_240 vm_Lt_isRefused rfl rfl rfl (Or.inl ⟨rfl, Nat.le_of_ble_eq_true rfl⟩) (Nat.le_of_ble_eq_true rfl) (Nat.le_of_ble_eq_true rfl) (Nat.le_refl _) (Nat.le_refl _) (Nat.le_of_ble_eq_true rfl) (Lt_isRefused_ok k h r) rfl ?_
  rintro rv h1 r ⟨rfl, rfl, rfl⟩ -
  have q1 := q0.put k
  refine wq_cif_eq (tgt := 18) (q := 16) rfl rfl rfl (fun c13 => ?_) (fun c13 => ?_)
  · skip
    refine wq_aload_n (kk := 0) (q := 19) rfl rfl rfl ?_
    refine wq_getF (q := 22) f_Lt_44 rfl rfl (Nat.le_of_ble_eq_true rfl) rfl rfl rfl ?_
    refine wq_aload_n (kk := 0) (q := 23) rfl rfl rfl ?_
    refine wq_getR (q := 26) f_Lt_16 rfl rfl (Or.inl ⟨rfl, Nat.le_of_ble_eq_true rfl⟩) hcur rfl rfl ?_
    refine wq_callV (q := 29) (m' := m_Ne_load) (R' := rm 4) (As := [_]) rfl rfl l_Lt_184 vm_Ne_load rfl rfl rfl (Or.inl ⟨rfl, Nat.le_of_ble_eq_true rfl⟩) (Nat.le_of_ble_eq_true rfl) (Nat.le_of_ble_eq_true rfl) (Nat.le_refl _) (Nat.le_refl _) (Nat.le_of_ble_eq_true rfl) (Lt_load q1) rfl ?_
    rintro rv h2 r2 ⟨rfl, q2, w2⟩ -
    have k0 : k = 0 := by simpa using c13
    subst k0
    have hab := kD_0 hk
    have ht := bI_ne hab.2.2
    have hdd := q2.DV.2.2.1 d hab.1.1 (by rw [q2.at2 4]; exact hab.1.2)
    have hN := hI.1.1
    refine wq_aload_n (kk := 0) (q := 30) rfl rfl rfl ?_
    refine wq_iload_n (kk := 1) (q := 31) rfl rfl rfl ?_
    refine wq_iload_n (kk := 2) (q := 32) rfl rfl rfl ?_
    refine wq_iload_n (kk := 3) (q := 33) rfl rfl rfl ?_
    refine wq_callV (q := 36) (m' := m_Lt_soonestAt) (R' := rm 5) (As := [_, _, _]) rfl rfl l_Lt_264 vm_Lt_soonestAt rfl rfl rfl (Or.inl ⟨rfl, Nat.le_of_ble_eq_true rfl⟩) (Nat.le_of_ble_eq_true rfl) (Nat.le_of_ble_eq_true rfl) (Nat.le_refl _) (Nat.le_refl _) (Nat.le_of_ble_eq_true rfl) (Lt_soonestAt_ok (dN h 0) a b t h2 r2 w2 hab.2.1.1 hab.2.1.2) rfl ?_
    rintro rv h3 r2 ⟨v, rfl, hs, rfl, f3⟩ -
    have q3 := q2.scr f3 (by decide)
    have w3 := w2.fr f3 (by decide)
    have ev := hs.sn hV hab.2.1.2
    have hr := sn_r hV (a := a) (b := b) ht
    have h12 : h3 12 d = h2 12 d := f3.at 12 d (by decide)
    refine wq_istore (i := 5) (q := 38) rfl rfl (Nat.le_of_ble_eq_true rfl) rfl ?_
    refine wq_iload (i := 5) (q := 40) rfl rfl rfl ?_
    refine wq_ldcw (n := 1000000) (q := 43) k_Lt_257 rfl rfl rfl ?_
    refine wq_icmp_ne (tgt := 53) (q := 46) rfl rfl rfl (fun c43 => ?_) (fun c43 => ?_)
    · skip
      refine wq_aload_n (kk := 0) (q := 54) rfl rfl rfl ?_
      refine wq_getF (q := 57) f_Lt_44 rfl rfl (Nat.le_of_ble_eq_true rfl) rfl rfl rfl ?_
      refine wq_iload (i := 4) (q := 59) rfl rfl rfl ?_
      refine wq_iconst (n := 0) (q := 60) rfl rfl rfl ?_
      refine wq_callV (q := 63) (m' := m_Ne_setRuns) (R' := rm 1) (As := [_, _]) rfl rfl l_Lt_305 vm_Ne_setRuns rfl rfl rfl (Or.inl ⟨rfl, Nat.le_of_ble_eq_true rfl⟩) (Nat.le_of_ble_eq_true rfl) (Nat.le_of_ble_eq_true rfl) (Nat.le_refl _) (Nat.le_refl _) (Nat.le_of_ble_eq_true rfl) (Ne_setRuns_ok d 0 0 h3 r2 w3.1 (by omega) (Or.inl rfl) (by omega) rfl) rfl ?_
      rintro rv h4 r2 ⟨rfl, rfl, rfl⟩ -
      have q4 := q3.scr (S := [34]) (h2 := hup h3 34 d 0) (fr.rf.up (by decide)) (by decide)
      have w4 := w3.run (d := d) (v := 0) (Or.inl rfl)
      refine wq_aload_n (kk := 0) (q := 64) rfl rfl rfl ?_
      refine wq_iload_n (kk := 1) (q := 65) rfl rfl rfl ?_
      refine wq_iload_n (kk := 2) (q := 66) rfl rfl rfl ?_
      refine wq_iload_n (kk := 3) (q := 67) rfl rfl rfl ?_
      refine wq_callV (q := 70) (m' := m_Lt_soonestAt) (R' := rm 5) (As := [_, _, _]) rfl rfl l_Lt_264 vm_Lt_soonestAt rfl rfl rfl (Or.inl ⟨rfl, Nat.le_of_ble_eq_true rfl⟩) (Nat.le_of_ble_eq_true rfl) (Nat.le_of_ble_eq_true rfl) (Nat.le_refl _) (Nat.le_refl _) (Nat.le_of_ble_eq_true rfl) (Lt_soonestAt2_ok (nRun (dN h 0) d 0) a b t _ r2 w4 hab.2.1.1 hab.2.1.2) rfl ?_
      rintro rv h5 r2 ⟨v2, rfl, hs5, rfl, f5, C5⟩ -
      have q5 := q4.scr f5 (by decide)
      have w5 := w4.fr f5 (by decide)
      have ev5 := hs5.sn w4.2.1 hab.2.1.2
      have h12' : h5 12 d = h2 12 d := by rw [f5.at 12 d (by decide), hup_i (by decide)]; exact h12
      have h12'' : h2 12 d = h 12 d := q2.1.at 12 d (by decide)
      refine wq_iload (i := 5) (q := 72) rfl rfl rfl ?_
      refine wq_icmp_ne (tgt := 82) (q := 75) rfl rfl rfl (fun c72 => ?_) (fun c72 => ?_)
      · skip
        refine wq_aload_n (kk := 0) (q := 83) rfl rfl rfl ?_
        refine wq_getF (q := 86) f_Lt_51 rfl rfl (Nat.le_of_ble_eq_true rfl) rfl rfl rfl ?_
        refine wq_aload_n (kk := 0) (q := 87) rfl rfl rfl ?_
        refine wq_getF (q := 90) f_Lt_44 rfl rfl (Nat.le_of_ble_eq_true rfl) rfl rfl rfl ?_
        refine wq_iload_n (kk := 2) (q := 91) rfl rfl rfl ?_
        refine wq_callV (q := 94) (m' := m_Se_aim) (R' := rm 4) (As := [_, _]) rfl rfl l_Lt_309 vm_Se_aim rfl rfl rfl (Or.inl ⟨rfl, Nat.le_of_ble_eq_true rfl⟩) (Nat.le_of_ble_eq_true rfl) (Nat.le_of_ble_eq_true rfl) (Nat.le_refl _) (Nat.le_refl _) (Nat.le_of_ble_eq_true rfl) (Se_aim_ok (nRun (dN h 0) d 0) b h5 r2 w5) rfl ?_
        rintro rv h6 r2 ⟨rfl, rfl, f6, A6⟩ -
        have q6 := q5.scr f6 (by decide)
        have w6 := w5.fr f6 (by decide)
        have C6 := C5.cg (f6 50 (by decide))
        refine wq_iconst (n := 0) (q := 95) rfl rfl rfl ?_
        refine wq_istore (i := 6) (q := 97) rfl rfl (Nat.le_of_ble_eq_true rfl) rfl ?_
        exact Lt_slackL a b t d v h r hI.1 hab.1 ev c43 (by rw [← ev5]; exact c72) _ (fun v hv => Or.inr ⟨rfl, rfl, hv⟩) _ 0 _ _ rfl (by omega) (by omega) q6 w6.1 (by rw [nLate_0]; exact w6.2.2.1) w6.2.2.2.2 C6 A6 (fun j j0 j1 => by omega)
      · skip
        refine wq_aload_n (kk := 0) (q := 76) rfl rfl rfl ?_
        refine wq_bipush (n := 99) (q := 78) rfl rfl rfl ?_
        refine wq_callV (q := 81) (m' := m_Lt_answer) (R' := rm 1) (As := [_]) rfl rfl l_Lt_113 vm_Lt_answer rfl rfl rfl (Or.inl ⟨rfl, Nat.le_of_ble_eq_true rfl⟩) (Nat.le_of_ble_eq_true rfl) (Nat.le_of_ble_eq_true rfl) (Nat.le_refl _) (Nat.le_refl _) (Nat.le_of_ble_eq_true rfl) (Lt_answer_ok _ h5 r2) rfl ?_
        rintro rv h6 r2 ⟨rfl, rfl, rfl⟩ -
        refine wq_iret rfl rfl (Nat.le_refl _) (Nat.le_refl _) ⟨_, rfl, Or.inr ⟨rfl, hup_s, Or.inr ⟨by omega, by omega, fun k k0 k1 => ?_, Or.inl rfl⟩⟩, q5.put 0⟩
        have := sn_late hV (nLate_NV hI.1 hab.1 (k := k) (by omega)) a t b
        omega
    · skip
      refine wq_aload_n (kk := 0) (q := 47) rfl rfl rfl ?_
      refine wq_bipush (n := -2) (q := 49) rfl rfl rfl ?_
      refine wq_callV (q := 52) (m' := m_Lt_answer) (R' := rm 1) (As := [_]) rfl rfl l_Lt_113 vm_Lt_answer rfl rfl rfl (Or.inl ⟨rfl, Nat.le_of_ble_eq_true rfl⟩) (Nat.le_of_ble_eq_true rfl) (Nat.le_of_ble_eq_true rfl) (Nat.le_refl _) (Nat.le_refl _) (Nat.le_of_ble_eq_true rfl) (Lt_answer_ok _ h3 r2) rfl ?_
      rintro rv h4 r1 ⟨rfl, rfl, rfl⟩ -
      exact wq_iret rfl rfl (Nat.le_refl _) (Nat.le_refl _) ⟨_, rfl, Or.inr ⟨rfl, hup_s, Or.inl ⟨by omega, rfl⟩⟩, q3.put 0⟩
  · skip
    refine wq_iconst (n := -1) (q := 17) rfl rfl rfl ?_
    exact wq_iret rfl rfl (Nat.le_refl _) (Nat.le_refl _) ⟨_, rfl, Or.inl ⟨c13, rfl, hup_s⟩, q1⟩

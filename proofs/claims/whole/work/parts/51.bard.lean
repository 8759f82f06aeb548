def rEq (r r1 : mR) : Prop := r1.2 = r.2 ∧ ∀ i k, ¬ (i = 58 ∧ (k = 4 ∨ k = 5)) → r1.1 i k = r.1 i k
theorem rEq.rf {r : mR} : rEq r r := ⟨rfl, fun _ _ _ => rfl⟩
theorem rEq.sw {r r1 : mR} (h : rEq r r1) (nw fw : Nat) : rEq r (swp r1 nw fw) := ⟨h.1, fun i k hk => by rw [rup_o (by omega), rup_o (by omega)]; exact h.2 i k hk⟩
abbrev baC : List Nat := [58, 59, 60, 61, 62, 63]
abbrev baQ (N : mN) (a b t K : Int) (h : mH) (r : mR) : mP := fun rv h1 r1 => rv = none ∧ rEq r r1 ∧ (∃ nw fw, isB nw fw r1) ∧ fr baC h h1 ∧ ((a = b ∧ h1 58 0 = 1 ∧ h1 59 0 = t ∧ h1 60 0 = 0 ∧ h1 61 0 = t) ∨ (a ≠ b ∧ barg N a b t K h1))
def mvI (N : mN) (V : Int → mF) (k m : Int) : Prop := m = 1 ∨ (m = 0 ∧ 1 ≤ k ∧ ∀ d, dp N d → rn N d = 1 → V (k - 1) d = V (k - 1 - 1) d)
set_option maxRecDepth 100000 in
set_option maxHeartbeats 4000000 in
theorem Ba_colA (N : mN) (a b t K : Int) (h : mH) (r : mR) (hw : netW h r N) (ha : 0 ≤ a ∧ a < nS N) (hab : a ≠ b) (hK : 0 ≤ K ∧ K ≤ 120) : ∀ (M : Nat) (k m best : Int) (V : Int → mF) (Sq : mF) (nw fw : Nat) (h' : mH) (r' : mR) (z : Option mV), (K + 1 - k).toNat = M → 0 ≤ k → k ≤ K + 1 → rEq r r' → isB nw fw r' → fr baC h h' → BI N a b t k V Sq nw h' → mvI N V k m → best = Sq (k - 1) → h' 58 0 ≤ 120 → WP (true, rm 5) m_Ba_collect (rt m_Ba_collect (rm 5) (baQ N a b t K h r)) 57 [some (vR 58), some (vR 31), some (vI a), some (vI b), some (vI t), some (vI K), some (vI best), some (vI m), some (vI k), z] [] h' r' (0, 0) := by
  intro M
  induction M using Nat.strongRecOn with
  | ind M ih =>
    intro k m best V Sq nw fw h' r' z hM k0 k1 hr hB hf hI hm hbest hc
    obtain ⟨hnde, hV, hN, hO, hG⟩ := id hw
    have hn := hV.1
    have hw' : netW h' r' N := ⟨by rw [hr.2 31 7 (by omega)]; exact hnde, (hw.fr hf (by decide)).2⟩
    obtain ⟨i1, i2, i3, i4, i5, i6, i7⟩ := id hI
    have hnf : nw ≠ fw := by rcases hB.1 with ⟨rfl, rfl⟩ | ⟨rfl, rfl⟩ <;> decide
    have hids : (nw = 62 ∨ nw = 63) ∧ (fw = 62 ∨ fw = 63) := by rcases hB.1 with ⟨rfl, rfl⟩ | ⟨rfl, rfl⟩ <;> decide
    have fwC : ∀ i ∈ [fw], i ∈ baC := by rcases hB.1 with ⟨rfl, rfl⟩ | ⟨rfl, rfl⟩ <;> decide
    have fwN : ∀ i ∈ [31, 2, 32, 33, 6, 7, 5, 34, 38, 39, 35, 36, 37], i ∉ [fw] := by rcases hB.1 with ⟨rfl, rfl⟩ | ⟨rfl, rfl⟩ <;> decide
    have fwT : ∀ i ∈ [58, 59, 60, 61], i ∉ [fw] := by rcases hB.1 with ⟨rfl, rfl⟩ | ⟨rfl, rfl⟩ <;> decide
    have fin : m = 0 ∨ K < k → barg N a b t K h' := fun y => by
      rcases hm with q | ⟨q, q1, q2⟩
      · exact hI.done (by omega) hc
      · by_cases e : k = K + 1
        · exact hI.done e hc
        · exact hI.stop q1 (by omega) hc q2
    refine wq_iload (i := 7) (q := 59) rfl rfl rfl ?_
    refine wq_if_eq (tgt := 122) (q := 62) rfl rfl rfl (fun c59 => ?_) (fun c59 => ?_)
    · skip
      exact wq_vret rfl rfl (Nat.le_refl _) (Nat.le_refl _) ⟨rfl, hr, ⟨nw, fw, hB⟩, hf, Or.inr ⟨hab, fin (by omega)⟩⟩
    · skip
      refine wq_iload (i := 8) (q := 64) rfl rfl rfl ?_
      refine wq_iload (i := 5) (q := 66) rfl rfl rfl ?_
      refine wq_icmp_gt (tgt := 122) (q := 69) rfl rfl rfl (fun c66 => ?_) (fun c66 => ?_)
      · skip
        exact wq_vret rfl rfl (Nat.le_refl _) (Nat.le_refl _) ⟨rfl, hr, ⟨nw, fw, hB⟩, hf, Or.inr ⟨hab, fin (by omega)⟩⟩
      · skip
        refine wq_aload_n (kk := 0) (q := 70) rfl rfl rfl ?_
        refine wq_aload_n (kk := 1) (q := 71) rfl rfl rfl ?_
        refine wq_iload_n (kk := 3) (q := 72) rfl rfl rfl ?_
        refine wq_callV (q := 75) (m' := m_Ba_allowOneMore) (R' := rm 4) (As := [_, _]) rfl rfl l_Ba_39 vm_Ba_allowOneMore rfl rfl rfl (Or.inl ⟨rfl, Nat.le_of_ble_eq_true rfl⟩) (Nat.le_of_ble_eq_true rfl) (Nat.le_of_ble_eq_true rfl) (Nat.le_refl _) (Nat.le_refl _) (Nat.le_of_ble_eq_true rfl) (Ba_allow_ok nw fw N b h' r' hB hw' i3) rfl ?_
        rintro rv h1 r1 ⟨rfl, f1, x1, m1, rfl, m01, mst⟩ -
        have hB1 := hB.sw
        have hr1 := hr.sw nw fw
        have hw1 : netW h1 (swp r' nw fw) N := (hw'.fr f1 fwN).sw nw fw
        have hp1 : ∀ f, dp N f → rn N f ≠ 1 → h1 fw f = 1000000 := fun f h1 h2 => (x1 f h1).1 h2
        have hnw : ∀ d, h1 nw d = h' nw d := fun d => f1.at nw d (by simpa using hnf)
        have e58 : h1 58 0 = h' 58 0 := f1.at 58 0 (fwT 58 (by decide))
        have e59 : h1 59 = h' 59 := f1 59 (fwT 59 (by decide))
        have e60 : h1 60 = h' 60 := f1 60 (fwT 60 (by decide))
        have e61 : h1 61 = h' 61 := f1 61 (fwT 61 (by decide))
        refine wq_istore (i := 7) (q := 77) rfl rfl (Nat.le_of_ble_eq_true rfl) rfl ?_
        refine wq_aload_n (kk := 0) (q := 78) rfl rfl rfl ?_
        refine wq_aload_n (kk := 1) (q := 79) rfl rfl rfl ?_
        refine wq_iload_n (kk := 2) (q := 80) rfl rfl rfl ?_
        refine wq_iload (i := 4) (q := 82) rfl rfl rfl ?_
        refine wq_callV (q := 85) (m' := m_Ba_soonestFrom) (R' := rm 2) (As := [_, _, _]) rfl rfl l_Ba_43 vm_Ba_soonestFrom rfl rfl rfl (Or.inl ⟨rfl, Nat.le_of_ble_eq_true rfl⟩) (Nat.le_of_ble_eq_true rfl) (Nat.le_of_ble_eq_true rfl) (Nat.le_refl _) (Nat.le_refl _) (Nat.le_of_ble_eq_true rfl) (Ba_soonestFrom_ok fw nw N a t h1 _ hB1 hw1 ha hp1) rfl ?_
        rintro rv h1 r1 ⟨s, rfl, rfl, rfl, hs⟩ -
        have hf1 : fr baC h h1 := hf.trans f1 fwC
        have anti : s ≤ Sq (k - 1) := by
          refine (i4 (k - 1) (by omega) (by omega)).le hs (fun d hd hr => ?_)
          have hVt : Vt N b 1000000 (fun j => if j = k then h1 fw else V j) k := by
            refine ⟨fun d => by (try dsimp only); rw [if_neg (by omega)]; exact i1.1 d, fun j j0 j1 d hd hr => ?_⟩
            (try dsimp only)
            by_cases ej : j = k
            · subst ej
              rw [if_pos rfl, if_neg (show ¬ j - 1 = j by omega)]
              exact ((x1 d hd).2 hr).congr hd (fun d hd => by rw [hnw]; exact (i2 d hd).symm) (fun d hd => rfl)
            · rw [if_neg ej, if_neg (show ¬ j - 1 = k by omega)]
              exact i1.2 j j0 (by omega) d hd hr
          have := Vt.anti hV (by omega) hVt _ d hd hr rfl k.toNat (by omega)
          have ek : ((k.toNat : Nat) : Int) = k := by omega
          rw [ek] at this
          try dsimp only at this
          rw [if_pos rfl, if_neg (show ¬ k - 1 = k by omega)] at this
          exact this
        have mvN : mvI N (fun j => if j = k then h1 fw else V j) (k + 1) m1 := by
          rcases m01 with q | q
          · refine Or.inr ⟨q, by omega, fun d hd hr => ?_⟩
            have e1 : k + 1 - 1 = k := by omega
            (try dsimp only)
            rw [e1, if_pos rfl, if_neg (show ¬ k - 1 = k by omega), mst q d hd, hnw]
            exact i2 d hd
          · exact Or.inl q
        have full : k = 120 → ¬ s < Sq (k - 1) := by
          intro e hlt
          have hVt : Vt N b 1000000 (fun j => if j = k then h1 fw else V j) k := by
            refine ⟨fun d => by (try dsimp only); rw [if_neg (by omega)]; exact i1.1 d, fun j j0 j1 d hd hr => ?_⟩
            (try dsimp only)
            by_cases ej : j = k
            · subst ej
              rw [if_pos rfl, if_neg (show ¬ j - 1 = j by omega)]
              exact ((x1 d hd).2 hr).congr hd (fun d hd => by rw [hnw]; exact (i2 d hd).symm) (fun d hd => rfl)
            · rw [if_neg ej, if_neg (show ¬ j - 1 = k by omega)]
              exact i1.2 j j0 (by omega) d hd hr
          have := hs.le (i4 (k - 1) (by omega) (by omega)) (fun d hd hr => by
            obtain ⟨i, i0, i1', rfl⟩ := hO.1.sur hd.1 hd.2
            have := Vt.full hV hVt hO.1 hO.2 _ i rfl i0 i1' hr k (by omega) (Int.le_refl _)
            try dsimp only at this
            rw [if_pos rfl, if_neg (show ¬ k - 1 = k by omega)] at this
            omega)
          omega
        refine wq_istore (i := 9) (q := 87) rfl rfl (Nat.le_of_ble_eq_true rfl) rfl ?_
        refine wq_iload (i := 9) (q := 89) rfl rfl rfl ?_
        refine wq_iload (i := 6) (q := 91) rfl rfl rfl ?_
        refine wq_icmp_ge (tgt := 116) (q := 94) rfl rfl rfl (fun c91 => ?_) (fun c91 => ?_)
        · skip
          refine wq_iinc (i := 8) (n := 1) (q := 119) rfl rfl rfl (Nat.le_of_ble_eq_true rfl) rfl (by omega) (by omega) ?_
          refine wq_goto (tgt := 57) rfl rfl ?_
          refine ih _ ?_ (k + 1) m1 best _ _ fw nw h1 _ _ rfl (by omega) (by omega) hr1 hB1 hf1 (BI.next k0 hI hnw x1 hs (fun _ => rfl) ?_ ?_ (by omega)) mvN ?_ (by omega)
          · omega
          · rw [e58, e59, e60]
            exact i5.keep k0 (by omega)
          · rw [e58, e59, e60, e61]
            intro i j0 j1
            have := (i5.2.1 i j0 j1).2.1
            (try dsimp only)
            rw [if_neg (by omega)]
            exact i6 i j0 j1
          · (try dsimp only)
            have e1 : k + 1 - 1 = k := by omega
            rw [e1, if_pos rfl]
            omega
        · skip
          refine wq_iload (i := 9) (q := 96) rfl rfl rfl ?_
          refine wq_istore (i := 6) (q := 98) rfl rfl (Nat.le_of_ble_eq_true rfl) rfl ?_
          refine wq_aload_n (kk := 0) (q := 99) rfl rfl rfl ?_
          refine wq_iload (i := 9) (q := 101) rfl rfl rfl ?_
          refine wq_iload (i := 8) (q := 103) rfl rfl rfl ?_
          refine wq_aload_n (kk := 0) (q := 104) rfl rfl rfl ?_
          refine wq_aload_n (kk := 1) (q := 105) rfl rfl rfl ?_
          refine wq_iload_n (kk := 2) (q := 106) rfl rfl rfl ?_
          refine wq_iload (i := 4) (q := 108) rfl rfl rfl ?_
          refine wq_iload (i := 9) (q := 110) rfl rfl rfl ?_
          refine wq_callV (q := 113) (m' := m_Ba_latestStart) (R' := rm 2) (As := [_, _, _, _]) rfl rfl l_Ba_47 vm_Ba_latestStart rfl rfl rfl (Or.inl ⟨rfl, Nat.le_of_ble_eq_true rfl⟩) (Nat.le_of_ble_eq_true rfl) (Nat.le_of_ble_eq_true rfl) (Nat.le_refl _) (Nat.le_refl _) (Nat.le_of_ble_eq_true rfl) (Ba_latestStart_ok fw nw N a t s h1 _ hB1 hw1 ha hp1 (by have := (i4 (k - 1) (by omega) (by omega)).2.1; omega) hs) rfl ?_
          rintro rv h1 r1 ⟨w, rfl, rfl, rfl, hw2⟩ -
          refine wq_callV (q := 116) (m' := m_Ba_add) (R' := rm 1) (As := [_, _, _]) rfl rfl l_Ba_31 vm_Ba_add rfl rfl rfl (Or.inl ⟨rfl, Nat.le_of_ble_eq_true rfl⟩) (Nat.le_of_ble_eq_true rfl) (Nat.le_of_ble_eq_true rfl) (Nat.le_refl _) (Nat.le_refl _) (Nat.le_of_ble_eq_true rfl) (Ba_add_ok s k w h1 _ (by rw [e58]; have := i5.1; have : k ≠ 120 := fun q => full q (by omega); omega)) rfl ?_
          rintro rv h2 r2 ⟨rfl, rfl, f2, a1, a2, a3, a4, a5⟩ -
          have h2f : ∀ d, h2 fw d = h1 fw d := fun d => f2.at fw d (by rcases hids.2 with rfl | rfl <;> decide)
          refine wq_iinc (i := 8) (n := 1) (q := 119) rfl rfl rfl (Nat.le_of_ble_eq_true rfl) rfl (by omega) (by omega) ?_
          refine wq_goto (tgt := 57) rfl rfl ?_
          rw [e58] at a1 a2 a3 a4 a5
          refine ih _ ?_ (k + 1) m1 s _ _ fw nw h2 _ _ rfl (by omega) (by omega) hr1 hB1 (hf1.trans f2 (by decide)) (BI.next k0 hI hnw x1 hs h2f ?_ ?_ (by omega)) mvN ?_ ?_
          · omega
          · rw [a1]
            exact i5.add k0 (by omega) (fun i hi => ⟨by rw [(a2 i hi).1, e59], by rw [(a2 i hi).2.1, e60]⟩) ⟨a3, a4⟩
          · intro i j0 j1
            (try dsimp only)
            by_cases ei : i = h' 58 0
            · subst ei
              rw [a4, if_pos rfl, a3, a5]
              exact hw2
            · have e1 := a2 i ei
              rw [e1.1, e1.2.1, e1.2.2, e59, e60, e61]
              have := (i5.2.1 i j0 (by omega)).2.1
              rw [if_neg (by omega)]
              exact i6 i j0 (by omega)
          · (try dsimp only)
            have e1 : k + 1 - 1 = k := by omega
            rw [e1, if_pos rfl]
          · have : k ≠ 120 := fun q => full q (by omega)
            omega
set_option maxRecDepth 100000 in
set_option maxHeartbeats 4000000 in
theorem Ba_colZ (nw fw : Nat) (N : mN) (a b t K : Int) (h : mH) (r : mR) (hB : isB nw fw r) (hw : netW h r N) (ha : 0 ≤ a ∧ a < nS N) (hab : a ≠ b) (hK : 0 ≤ K ∧ K ≤ 120) (h58 : h 58 0 = 0) : ∀ (M : Nat) (d : Int) (h' : mH) (y1 y2 y3 : Option mV), (nN N - d).toNat = M → 0 ≤ d → d ≤ nN N → fr [nw] h h' → (∀ x, 0 ≤ x → x < d → h' nw x = 1000000) → WP (true, rm 5) m_Ba_collect (rt m_Ba_collect (rm 5) (baQ N a b t K h r)) 23 [some (vR 58), some (vR 31), some (vI a), some (vI b), some (vI t), some (vI K), some (vI d), y1, y2, y3] [] h' r (0, 0) := by
  have hB' := hB
  obtain ⟨hids, hnow, hfew⟩ := hB
  rcases hids with ⟨rfl, rfl⟩ | ⟨rfl, rfl⟩
  all_goals
    intro M
    induction M using Nat.strongRecOn with
    | ind M ih =>
      intro d h' y1 y2 y3 hM d0 d1 hf hx
      have hn := hw.2.1.1
      have hw' := hw.fr hf (by decide)
      have e31 := hw'.2.2.1.1
      refine wq_iload (i := 6) (q := 25) rfl rfl rfl ?_
      refine wq_aload_n (kk := 1) (q := 26) rfl rfl rfl ?_
      refine wq_getI (kz := 0) (q := 29) rfl f_Ba_35 rfl rfl (Or.inl ⟨rfl, Nat.le_of_ble_eq_true rfl⟩) rfl rfl ?_
      refine wq_icmp_ge (tgt := 47) (q := 32) rfl rfl rfl (fun c29 => ?_) (fun c29 => ?_)
      · skip
        refine wq_ldc (n := 1000000) (q := 49) k_Ba_38 rfl rfl rfl ?_
        refine wq_istore (i := 6) (q := 51) rfl rfl (Nat.le_of_ble_eq_true rfl) rfl ?_
        refine wq_iconst (n := 1) (q := 52) rfl rfl rfl ?_
        refine wq_istore (i := 7) (q := 54) rfl rfl (Nat.le_of_ble_eq_true rfl) rfl ?_
        refine wq_iconst (n := 0) (q := 55) rfl rfl rfl ?_
        refine wq_istore (i := 8) (q := 57) rfl rfl (Nat.le_of_ble_eq_true rfl) rfl ?_
        have e58 : h' 58 0 = 0 := by rw [hf.at 58 0 (by decide)]; exact h58
        refine Ba_colA N a b t K h r hw ha hab hK _ 0 1 1000000 (fun _ _ => 1000000) (fun _ => 1000000) _ _ h' r _ rfl (by omega) (by omega) rEq.rf hB' (hf.mono (by decide)) ⟨⟨fun _ => rfl, fun k k0 k1 => by omega⟩, fun x hx' => hx x hx'.1 (by have := hx'.2; omega), fun x hx' _ => hx x hx'.1 (by have := hx'.2; omega), fun j _ _ => ⟨Or.inl rfl, Int.le_refl _, fun _ _ _ _ _ => Int.le_refl _⟩, ⟨by omega, fun i i0 i1 => by omega, fun i j i0 ij j1 => by omega, fun k k0 k1 => by omega⟩, fun i i0 i1 => by omega, by omega⟩ (Or.inl rfl) rfl (by omega)
      · skip
        refine wq_aload_n (kk := 0) (q := 33) rfl rfl rfl ?_
        refine wq_getR (q := 36) f_Ba_21 rfl rfl (Or.inl ⟨rfl, Nat.le_of_ble_eq_true rfl⟩) hnow rfl rfl ?_
        refine wq_iload (i := 6) (q := 38) rfl rfl rfl ?_
        refine wq_ldc (n := 1000000) (q := 40) k_Ba_38 rfl rfl rfl ?_
        refine wq_iast (q := 41) rfl (Or.inl ⟨rfl, Nat.le_of_ble_eq_true rfl⟩) rfl rfl (by first | omega | (simp [hup]; omega)) (by first | omega | (simp [hup]; omega)) ?_
        refine wq_iinc (i := 6) (n := 1) (q := 44) rfl rfl rfl (Nat.le_of_ble_eq_true rfl) rfl (by first | omega | (simp [hup]; omega)) (by first | omega | (simp [hup]; omega)) ?_
        refine wq_goto (tgt := 23) rfl rfl ?_
        refine ih _ ?_ (d + 1) _ _ _ _ rfl (by omega) (by omega) (hf.up (by decide)) (fun x x0 x1 => ?_)
        · omega
        · by_cases e : x = d
          · subst e; rw [hup_s]
          · rw [hup_j e]; exact hx x x0 (by omega)
set_option maxRecDepth 100000 in
set_option maxHeartbeats 1000000 in
theorem Ba_collect_ok (nw fw : Nat) (N : mN) (a b t K : Int) (h : mH) (r : mR) (hB : isB nw fw r) (hw : netW h r N) (ha : 0 ≤ a ∧ a < nS N) (hK : 0 ≤ K ∧ K ≤ 120) : Meets true (rm 5) m_Ba_collect [vR 58, vR 31, vI a, vI b, vI t, vI K] h r (baQ N a b t K h r) := by
  have hn := hw.2.1.1
  have f0 : fr baC h (hup h 58 0 0) := fr.rf.up (by decide)
  refine ⟨ok_Ba_collect, Nat.le_of_ble_eq_true rfl, ?_⟩
  refine wq_aload_n (kk := 0) (q := 1) rfl rfl rfl ?_
  refine wq_iconst (n := 0) (q := 2) rfl rfl rfl ?_
  refine wq_putI (kz := 0) (q := 5) rfl f_Ba_27 rfl rfl rfl (Or.inl ⟨rfl, Nat.le_of_ble_eq_true rfl⟩) rfl rfl ?_
  refine wq_iload_n (kk := 2) (q := 6) rfl rfl rfl ?_
  refine wq_iload_n (kk := 3) (q := 7) rfl rfl rfl ?_
  refine wq_icmp_ne (tgt := 20) (q := 10) rfl rfl rfl (fun c7 => ?_) (fun c7 => ?_)
  · skip
    refine wq_iconst (n := 0) (q := 21) rfl rfl rfl ?_
    refine wq_istore (i := 6) (q := 23) rfl rfl (Nat.le_of_ble_eq_true rfl) rfl ?_
    have q := Ba_colZ nw fw N a b t K (hup h 58 0 0) r hB (hw.fr f0 (by decide)) ha c7 hK hup_s _ 0 (hup h 58 0 0) none none none rfl (by omega) (by omega) fr.rf (fun x x0 x1 => by omega)
    refine WP.trans q (fun pc ls st h2 r2 u hx => WP.exit ⟨hx.1, hx.2.1, hx.2.2.imp (fun ⟨z1, x, z2, z3, z4⟩ => ⟨z1, x, z2, z3, ?_⟩) (fun z => z.imp (fun ⟨z1, z2, z3, z4⟩ => ⟨z1, z2, z3, ?_⟩) (fun ⟨z1, x, z2, z3, z4⟩ => ⟨z1, x, z2, z3, ?_⟩))⟩)
    all_goals
      obtain ⟨w1, w2, w3, w4, w5⟩ := z4
      exact ⟨w1, w2, w3, f0.trans w4 (fun _ q => q), w5⟩
  · skip
    refine wq_aload_n (kk := 0) (q := 11) rfl rfl rfl ?_
    refine wq_iload (i := 4) (q := 13) rfl rfl rfl ?_
    refine wq_iconst (n := 0) (q := 14) rfl rfl rfl ?_
    refine wq_iload (i := 4) (q := 16) rfl rfl rfl ?_
    refine wq_callV (q := 19) (m' := m_Ba_add) (R' := rm 1) (As := [_, _, _]) rfl rfl l_Ba_31 vm_Ba_add rfl rfl rfl (Or.inl ⟨rfl, Nat.le_of_ble_eq_true rfl⟩) (Nat.le_of_ble_eq_true rfl) (Nat.le_of_ble_eq_true rfl) (Nat.le_refl _) (Nat.le_refl _) (Nat.le_of_ble_eq_true rfl) (Ba_add_ok t 0 t _ r (by rw [hup_s]; omega)) rfl ?_
    rintro rv h2 r2 ⟨rfl, rfl, f2, a1, a2, a3, a4, a5⟩ -
    rw [hup_s] at a1 a3 a4 a5
    exact wq_vret rfl rfl (Nat.le_refl _) (Nat.le_refl _) ⟨rfl, rEq.rf, ⟨nw, fw, hB⟩, f0.trans f2 (by decide), Or.inl ⟨by omega, by omega, a3, a4, a5⟩⟩

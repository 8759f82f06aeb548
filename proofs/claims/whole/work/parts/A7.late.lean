/-! LinkTimesModel: latest, reach, farthest, meets, round -/
theorem bb_n {N : mN} {a t b : Int} (h : sn N a t b = 1000000) : bb N a t b = -2 := if_pos h
theorem bb_y {N : mN} {a t b : Int} (h : sn N a t b ≠ 1000000) : bb N a t b = sn N a t b := if_neg h
theorem sn_bd {N : mN} (hV : NV N) {a t b : Int} (ht : 0 ≤ t ∧ t ≤ 3000) : sn N a t b = 1000000 ∨ (0 ≤ sn N a t b ∧ sn N a t b ≤ 3000) := by
  by_cases h : a = b
  · subst h; rw [sn_a]; right; exact ht
  · have := sn_b hV h (t := t); omega
theorem bb_bd {N : mN} (hV : NV N) {a t b : Int} (ht : 0 ≤ t ∧ t ≤ 3000) : (sn N a t b = 1000000 ∧ bb N a t b = -2) ∨ (sn N a t b ≠ 1000000 ∧ bb N a t b = sn N a t b ∧ 0 ≤ sn N a t b ∧ sn N a t b ≤ 3000) := by
  have := sn_bd hV (a := a) (b := b) ht
  by_cases h : sn N a t b = 1000000
  · exact Or.inl ⟨h, bb_n h⟩
  · exact Or.inr ⟨h, bb_y h, by omega, by omega⟩
/-- of Las, of departures of less number than d -/
def LaI (N : mN) (a : Int) (e : mF) (y d v : Int) : Prop := (v = -2 ∨ ∃ g, g < d ∧ Pa N 9999 e a g ∧ e g ≤ y ∧ v = lv N g) ∧ -2 ≤ v ∧ ∀ g, g < d → Pa N 9999 e a g → e g ≤ y → lv N g ≤ v
set_option maxRecDepth 100000 in
set_option maxHeartbeats 1000000 in
theorem Mo_latestL (N : mN) (a b y : Int) (h : mH) (r : mR) (h1 : mH) (hM : isM h1 N) (hG : goal N b h1) (hy : y ≤ 1999) (e1 : h1 64 1 = 0) (f1 : f64 qF qK h h1) (P : Int → Int → Prop) (K : ∀ v, Las N a 9999 (h1 73) y v → P v 0) : ∀ (M : Nat) (d v : Int) (x6 : Option mV), (nN N - d).toNat = M → 0 ≤ d → d ≤ nN N → LaI N a (h1 73) y d v → WP (true, rm 7) m_Mo_latest (rt m_Mo_latest (rm 7) (rqQ h r P)) 35 [some (vR 64), some (vI a), some (vI b), some (vI y), some (vI v), some (vI d), x6] [] h1 r (0, 0) := by
  intro M
  induction M using Nat.strongRecOn with
  | ind M ih =>
    intro d v x6 hN d0 d1 hF
    have hV := hM.1
    have hn := hV.1
    have e4 := hM.2.1
    have hdp : d < nN N → dp N d := fun z => ⟨d0, z⟩
    have hfr : d < nN N → h1 66 (25 + 8 * d + 1) = frm N d := fun z => (hM.2.2.2.1 d ⟨d0, z⟩).2.2.1
    have step : ∀ w, v ≤ w → (w = v ∨ (Pa N 9999 (h1 73) a d ∧ h1 73 d ≤ y ∧ w = lv N d)) → (Pa N 9999 (h1 73) a d → h1 73 d ≤ y → lv N d ≤ w) → LaI N a (h1 73) y (d + 1) w := fun w w1 w2 w3 => by
      obtain ⟨a1, a2, a3⟩ := hF
      refine ⟨?_, by omega, fun e e0 e1 e2 => ?_⟩
      · rcases w2 with rfl | ⟨b1, b2, b3⟩
        · exact a1.imp id (fun ⟨e, c1, c2⟩ => ⟨e, by omega, c2⟩)
        · exact Or.inr ⟨d, by omega, b1, b2, b3⟩
      · by_cases z : e = d
        · subst z; exact w3 e1 e2
        · have := a3 e (by omega) e1 e2; omega
    refine wq_iload (i := 5) (q := 37) rfl rfl rfl ?_
    refine wq_aload_n (kk := 0) (q := 38) rfl rfl rfl ?_
    refine wq_getF (q := 41) f_Mo_17 rfl rfl (Nat.le_of_ble_eq_true rfl) rfl rfl rfl ?_
    refine wq_iconst (n := 4) (q := 42) rfl rfl rfl ?_
    refine wq_iald (q := 43) rfl (Or.inl ⟨rfl, Nat.le_of_ble_eq_true rfl⟩) rfl rfl (by first | omega | (simp [hup]; omega)) (by first | omega | (simp [hup]; omega)) ?_
    refine wq_icmp_ge (tgt := 123) (q := 46) rfl rfl rfl (fun c43 => ?_) (fun c43 => ?_)
    · skip
      refine wq_iload (i := 4) (q := 125) rfl rfl rfl ?_
      refine wq_iret rfl rfl (Nat.le_refl _) (Nat.le_refl _) ⟨_, rfl, rfl, ?_, by omega, f1⟩
      rw [e1]
      refine K v ?_
      obtain ⟨a1, a2, a3⟩ := hF
      have all : ∀ g, Pa N 9999 (h1 73) a g → h1 73 g ≤ y → lv N g ≤ v := fun g g1 g2 => a3 g (by have := g1.1.2; omega) g1 g2
      rcases a1 with z | ⟨g, -, g1, g2, g3⟩
      · refine Or.inl ⟨z, fun g g1 g2 => ?_⟩
        have := all g g1 g2
        have := hV.2.2.1 g g1.1
        omega
      · exact Or.inr ⟨g, g1, g2, g3, all⟩
    · skip
      refine wq_aload_n (kk := 0) (q := 47) rfl rfl rfl ?_
      refine wq_iload (i := 5) (q := 49) rfl rfl rfl ?_
      refine wq_callV (q := 52) (m' := m_Mo_runs) (R' := rm 2) (As := [_]) rfl rfl l_Mo_253 vm_Mo_runs rfl rfl rfl (Or.inl ⟨rfl, Nat.le_of_ble_eq_true rfl⟩) (Nat.le_of_ble_eq_true rfl) (Nat.le_of_ble_eq_true rfl) (Nat.le_refl _) (Nat.le_refl _) (Nat.le_of_ble_eq_true rfl) (Mo_runs_ok N d h1 r hM (hdp (by omega))) rfl ?_
      rintro rv h1 r ⟨rfl, rfl, rfl⟩ -
      refine wq_cif_eq (tgt := 85) (q := 55) rfl rfl rfl (fun c52 => ?_) (fun c52 => ?_)
      · skip
        refine wq_iconst (n := 0) (q := 86) rfl rfl rfl ?_
        refine wq_istore (i := 6) (q := 88) rfl rfl (Nat.le_of_ble_eq_true rfl) rfl ?_
        refine wq_iload (i := 6) (q := 90) rfl rfl rfl ?_
        refine wq_if_eq (tgt := 113) (q := 93) rfl rfl rfl (fun c90 => ?_) (fun c90 => ?_)
        · skip
          refine wq_iload (i := 4) (q := 115) rfl rfl rfl ?_
          refine wq_istore (i := 4) (q := 117) rfl rfl (Nat.le_of_ble_eq_true rfl) rfl ?_
          refine wq_iinc (i := 5) (n := 1) (q := 120) rfl rfl rfl (Nat.le_of_ble_eq_true rfl) rfl (by first | omega | (simp [hup]; omega)) (by first | omega | (simp [hup]; omega)) ?_
          refine wq_goto (tgt := 35) rfl rfl ?_
          have hfd := hfr (by omega)
          refine ih _ (by omega) (d + 1) _ _ rfl (by omega) (by omega) (step _ ?_ ?_ ?_)
          · omega
          · first
            | exact Or.inl rfl
            | (exfalso; omega)
            | exact Or.inr ⟨⟨hdp (by omega), by assumption, by omega, by omega⟩, by omega, rfl⟩
          · intro y1 y2
            have y3 := y1.2.1
            have y4 := y1.2.2.1
            first
            | exact absurd y3 (by assumption)
            | omega
        · skip
          refine wq_aload_n (kk := 0) (q := 94) rfl rfl rfl ?_
          refine wq_iload (i := 5) (q := 96) rfl rfl rfl ?_
          refine wq_callV (q := 99) (m' := m_Mo_leavesAt) (R' := rm 2) (As := [_]) rfl rfl l_Mo_250 vm_Mo_leavesAt rfl rfl rfl (Or.inl ⟨rfl, Nat.le_of_ble_eq_true rfl⟩) (Nat.le_of_ble_eq_true rfl) (Nat.le_of_ble_eq_true rfl) (Nat.le_refl _) (Nat.le_refl _) (Nat.le_of_ble_eq_true rfl) (Mo_leavesAt_ok N d h1 r hM (hdp (by omega))) rfl ?_
          rintro rv h1 r ⟨rfl, rfl, rfl⟩ -
          refine wq_iload (i := 4) (q := 101) rfl rfl rfl ?_
          refine wq_icmp_le (tgt := 113) (q := 104) rfl rfl rfl (fun c101 => ?_) (fun c101 => ?_)
          · skip
            refine wq_iload (i := 4) (q := 115) rfl rfl rfl ?_
            refine wq_istore (i := 4) (q := 117) rfl rfl (Nat.le_of_ble_eq_true rfl) rfl ?_
            refine wq_iinc (i := 5) (n := 1) (q := 120) rfl rfl rfl (Nat.le_of_ble_eq_true rfl) rfl (by first | omega | (simp [hup]; omega)) (by first | omega | (simp [hup]; omega)) ?_
            refine wq_goto (tgt := 35) rfl rfl ?_
            have hfd := hfr (by omega)
            refine ih _ (by omega) (d + 1) _ _ rfl (by omega) (by omega) (step _ ?_ ?_ ?_)
            · omega
            · first
              | exact Or.inl rfl
              | (exfalso; omega)
              | exact Or.inr ⟨⟨hdp (by omega), by assumption, by omega, by omega⟩, by omega, rfl⟩
            · intro y1 y2
              have y3 := y1.2.1
              have y4 := y1.2.2.1
              first
              | exact absurd y3 (by assumption)
              | omega
          · skip
            refine wq_aload_n (kk := 0) (q := 105) rfl rfl rfl ?_
            refine wq_iload (i := 5) (q := 107) rfl rfl rfl ?_
            refine wq_callV (q := 110) (m' := m_Mo_leavesAt) (R' := rm 2) (As := [_]) rfl rfl l_Mo_250 vm_Mo_leavesAt rfl rfl rfl (Or.inl ⟨rfl, Nat.le_of_ble_eq_true rfl⟩) (Nat.le_of_ble_eq_true rfl) (Nat.le_of_ble_eq_true rfl) (Nat.le_refl _) (Nat.le_refl _) (Nat.le_of_ble_eq_true rfl) (Mo_leavesAt_ok N d h1 r hM (hdp (by omega))) rfl ?_
            rintro rv h1 r ⟨rfl, rfl, rfl⟩ -
            refine wq_goto (tgt := 115) rfl rfl ?_
            refine wq_istore (i := 4) (q := 117) rfl rfl (Nat.le_of_ble_eq_true rfl) rfl ?_
            refine wq_iinc (i := 5) (n := 1) (q := 120) rfl rfl rfl (Nat.le_of_ble_eq_true rfl) rfl (by first | omega | (simp [hup]; omega)) (by first | omega | (simp [hup]; omega)) ?_
            refine wq_goto (tgt := 35) rfl rfl ?_
            have hfd := hfr (by omega)
            refine ih _ (by omega) (d + 1) _ _ rfl (by omega) (by omega) (step _ ?_ ?_ ?_)
            · omega
            · first
              | exact Or.inl rfl
              | (exfalso; omega)
              | exact Or.inr ⟨⟨hdp (by omega), by assumption, by omega, by omega⟩, by omega, rfl⟩
            · intro y1 y2
              have y3 := y1.2.1
              have y4 := y1.2.2.1
              first
              | exact absurd y3 (by assumption)
              | omega
      · skip
        refine wq_aload_n (kk := 0) (q := 56) rfl rfl rfl ?_
        refine wq_getF (q := 59) f_Mo_17 rfl rfl (Nat.le_of_ble_eq_true rfl) rfl rfl rfl ?_
        refine wq_iload (i := 5) (q := 61) rfl rfl rfl ?_
        refine wq_iconst (n := 1) (q := 62) rfl rfl rfl ?_
        refine wq_callS (q := 65) (m' := m_Mo_at) (R' := rm 1) (As := [_, _]) rfl rfl l_Mo_209 sm_Mo_at rfl (Nat.le_of_ble_eq_true rfl) (Nat.le_of_ble_eq_true rfl) (Nat.le_refl _) (Nat.le_refl _) (Nat.le_of_ble_eq_true rfl) (Mo_at_ok d 1 h1 r (by omega) (by omega)) rfl ?_
        rintro rv h1 r ⟨rfl, rfl, rfl⟩ -
        refine wq_iald (q := 66) rfl (Or.inl ⟨rfl, Nat.le_of_ble_eq_true rfl⟩) rfl rfl (by first | omega | (simp [hup]; omega)) (by first | omega | (simp [hup]; omega)) ?_
        refine wq_iload_n (kk := 1) (q := 67) rfl rfl rfl ?_
        refine wq_icmp_ne (tgt := 85) (q := 70) rfl rfl rfl (fun c67 => ?_) (fun c67 => ?_)
        · skip
          refine wq_iconst (n := 0) (q := 86) rfl rfl rfl ?_
          refine wq_istore (i := 6) (q := 88) rfl rfl (Nat.le_of_ble_eq_true rfl) rfl ?_
          refine wq_iload (i := 6) (q := 90) rfl rfl rfl ?_
          refine wq_if_eq (tgt := 113) (q := 93) rfl rfl rfl (fun c90 => ?_) (fun c90 => ?_)
          · skip
            refine wq_iload (i := 4) (q := 115) rfl rfl rfl ?_
            refine wq_istore (i := 4) (q := 117) rfl rfl (Nat.le_of_ble_eq_true rfl) rfl ?_
            refine wq_iinc (i := 5) (n := 1) (q := 120) rfl rfl rfl (Nat.le_of_ble_eq_true rfl) rfl (by first | omega | (simp [hup]; omega)) (by first | omega | (simp [hup]; omega)) ?_
            refine wq_goto (tgt := 35) rfl rfl ?_
            have hfd := hfr (by omega)
            refine ih _ (by omega) (d + 1) _ _ rfl (by omega) (by omega) (step _ ?_ ?_ ?_)
            · omega
            · first
              | exact Or.inl rfl
              | (exfalso; omega)
              | exact Or.inr ⟨⟨hdp (by omega), by assumption, by omega, by omega⟩, by omega, rfl⟩
            · intro y1 y2
              have y3 := y1.2.1
              have y4 := y1.2.2.1
              first
              | exact absurd y3 (by assumption)
              | omega
          · skip
            refine wq_aload_n (kk := 0) (q := 94) rfl rfl rfl ?_
            refine wq_iload (i := 5) (q := 96) rfl rfl rfl ?_
            refine wq_callV (q := 99) (m' := m_Mo_leavesAt) (R' := rm 2) (As := [_]) rfl rfl l_Mo_250 vm_Mo_leavesAt rfl rfl rfl (Or.inl ⟨rfl, Nat.le_of_ble_eq_true rfl⟩) (Nat.le_of_ble_eq_true rfl) (Nat.le_of_ble_eq_true rfl) (Nat.le_refl _) (Nat.le_refl _) (Nat.le_of_ble_eq_true rfl) (Mo_leavesAt_ok N d h1 r hM (hdp (by omega))) rfl ?_
            rintro rv h1 r ⟨rfl, rfl, rfl⟩ -
            refine wq_iload (i := 4) (q := 101) rfl rfl rfl ?_
            refine wq_icmp_le (tgt := 113) (q := 104) rfl rfl rfl (fun c101 => ?_) (fun c101 => ?_)
            · skip
              refine wq_iload (i := 4) (q := 115) rfl rfl rfl ?_
              refine wq_istore (i := 4) (q := 117) rfl rfl (Nat.le_of_ble_eq_true rfl) rfl ?_
              refine wq_iinc (i := 5) (n := 1) (q := 120) rfl rfl rfl (Nat.le_of_ble_eq_true rfl) rfl (by first | omega | (simp [hup]; omega)) (by first | omega | (simp [hup]; omega)) ?_
              refine wq_goto (tgt := 35) rfl rfl ?_
              have hfd := hfr (by omega)
              refine ih _ (by omega) (d + 1) _ _ rfl (by omega) (by omega) (step _ ?_ ?_ ?_)
              · omega
              · first
                | exact Or.inl rfl
                | (exfalso; omega)
                | exact Or.inr ⟨⟨hdp (by omega), by assumption, by omega, by omega⟩, by omega, rfl⟩
              · intro y1 y2
                have y3 := y1.2.1
                have y4 := y1.2.2.1
                first
                | exact absurd y3 (by assumption)
                | omega
            · skip
              refine wq_aload_n (kk := 0) (q := 105) rfl rfl rfl ?_
              refine wq_iload (i := 5) (q := 107) rfl rfl rfl ?_
              refine wq_callV (q := 110) (m' := m_Mo_leavesAt) (R' := rm 2) (As := [_]) rfl rfl l_Mo_250 vm_Mo_leavesAt rfl rfl rfl (Or.inl ⟨rfl, Nat.le_of_ble_eq_true rfl⟩) (Nat.le_of_ble_eq_true rfl) (Nat.le_of_ble_eq_true rfl) (Nat.le_refl _) (Nat.le_refl _) (Nat.le_of_ble_eq_true rfl) (Mo_leavesAt_ok N d h1 r hM (hdp (by omega))) rfl ?_
              rintro rv h1 r ⟨rfl, rfl, rfl⟩ -
              refine wq_goto (tgt := 115) rfl rfl ?_
              refine wq_istore (i := 4) (q := 117) rfl rfl (Nat.le_of_ble_eq_true rfl) rfl ?_
              refine wq_iinc (i := 5) (n := 1) (q := 120) rfl rfl rfl (Nat.le_of_ble_eq_true rfl) rfl (by first | omega | (simp [hup]; omega)) (by first | omega | (simp [hup]; omega)) ?_
              refine wq_goto (tgt := 35) rfl rfl ?_
              have hfd := hfr (by omega)
              refine ih _ (by omega) (d + 1) _ _ rfl (by omega) (by omega) (step _ ?_ ?_ ?_)
              · omega
              · first
                | exact Or.inl rfl
                | (exfalso; omega)
                | exact Or.inr ⟨⟨hdp (by omega), by assumption, by omega, by omega⟩, by omega, rfl⟩
              · intro y1 y2
                have y3 := y1.2.1
                have y4 := y1.2.2.1
                first
                | exact absurd y3 (by assumption)
                | omega
        · skip
          refine wq_aload_n (kk := 0) (q := 71) rfl rfl rfl ?_
          refine wq_getF (q := 74) f_Mo_39 rfl rfl (Nat.le_of_ble_eq_true rfl) rfl rfl rfl ?_
          refine wq_iload (i := 5) (q := 76) rfl rfl rfl ?_
          refine wq_iald (q := 77) rfl (Or.inl ⟨rfl, Nat.le_of_ble_eq_true rfl⟩) rfl rfl (by first | omega | (simp [hup]; omega)) (by first | omega | (simp [hup]; omega)) ?_
          refine wq_iload_n (kk := 3) (q := 78) rfl rfl rfl ?_
          refine wq_icmp_gt (tgt := 85) (q := 81) rfl rfl rfl (fun c78 => ?_) (fun c78 => ?_)
          · skip
            refine wq_iconst (n := 0) (q := 86) rfl rfl rfl ?_
            refine wq_istore (i := 6) (q := 88) rfl rfl (Nat.le_of_ble_eq_true rfl) rfl ?_
            refine wq_iload (i := 6) (q := 90) rfl rfl rfl ?_
            refine wq_if_eq (tgt := 113) (q := 93) rfl rfl rfl (fun c90 => ?_) (fun c90 => ?_)
            · skip
              refine wq_iload (i := 4) (q := 115) rfl rfl rfl ?_
              refine wq_istore (i := 4) (q := 117) rfl rfl (Nat.le_of_ble_eq_true rfl) rfl ?_
              refine wq_iinc (i := 5) (n := 1) (q := 120) rfl rfl rfl (Nat.le_of_ble_eq_true rfl) rfl (by first | omega | (simp [hup]; omega)) (by first | omega | (simp [hup]; omega)) ?_
              refine wq_goto (tgt := 35) rfl rfl ?_
              have hfd := hfr (by omega)
              refine ih _ (by omega) (d + 1) _ _ rfl (by omega) (by omega) (step _ ?_ ?_ ?_)
              · omega
              · first
                | exact Or.inl rfl
                | (exfalso; omega)
                | exact Or.inr ⟨⟨hdp (by omega), by assumption, by omega, by omega⟩, by omega, rfl⟩
              · intro y1 y2
                have y3 := y1.2.1
                have y4 := y1.2.2.1
                first
                | exact absurd y3 (by assumption)
                | omega
            · skip
              refine wq_aload_n (kk := 0) (q := 94) rfl rfl rfl ?_
              refine wq_iload (i := 5) (q := 96) rfl rfl rfl ?_
              refine wq_callV (q := 99) (m' := m_Mo_leavesAt) (R' := rm 2) (As := [_]) rfl rfl l_Mo_250 vm_Mo_leavesAt rfl rfl rfl (Or.inl ⟨rfl, Nat.le_of_ble_eq_true rfl⟩) (Nat.le_of_ble_eq_true rfl) (Nat.le_of_ble_eq_true rfl) (Nat.le_refl _) (Nat.le_refl _) (Nat.le_of_ble_eq_true rfl) (Mo_leavesAt_ok N d h1 r hM (hdp (by omega))) rfl ?_
              rintro rv h1 r ⟨rfl, rfl, rfl⟩ -
              refine wq_iload (i := 4) (q := 101) rfl rfl rfl ?_
              refine wq_icmp_le (tgt := 113) (q := 104) rfl rfl rfl (fun c101 => ?_) (fun c101 => ?_)
              · skip
                refine wq_iload (i := 4) (q := 115) rfl rfl rfl ?_
                refine wq_istore (i := 4) (q := 117) rfl rfl (Nat.le_of_ble_eq_true rfl) rfl ?_
                refine wq_iinc (i := 5) (n := 1) (q := 120) rfl rfl rfl (Nat.le_of_ble_eq_true rfl) rfl (by first | omega | (simp [hup]; omega)) (by first | omega | (simp [hup]; omega)) ?_
                refine wq_goto (tgt := 35) rfl rfl ?_
                have hfd := hfr (by omega)
                refine ih _ (by omega) (d + 1) _ _ rfl (by omega) (by omega) (step _ ?_ ?_ ?_)
                · omega
                · first
                  | exact Or.inl rfl
                  | (exfalso; omega)
                  | exact Or.inr ⟨⟨hdp (by omega), by assumption, by omega, by omega⟩, by omega, rfl⟩
                · intro y1 y2
                  have y3 := y1.2.1
                  have y4 := y1.2.2.1
                  first
                  | exact absurd y3 (by assumption)
                  | omega
              · skip
                refine wq_aload_n (kk := 0) (q := 105) rfl rfl rfl ?_
                refine wq_iload (i := 5) (q := 107) rfl rfl rfl ?_
                refine wq_callV (q := 110) (m' := m_Mo_leavesAt) (R' := rm 2) (As := [_]) rfl rfl l_Mo_250 vm_Mo_leavesAt rfl rfl rfl (Or.inl ⟨rfl, Nat.le_of_ble_eq_true rfl⟩) (Nat.le_of_ble_eq_true rfl) (Nat.le_of_ble_eq_true rfl) (Nat.le_refl _) (Nat.le_refl _) (Nat.le_of_ble_eq_true rfl) (Mo_leavesAt_ok N d h1 r hM (hdp (by omega))) rfl ?_
                rintro rv h1 r ⟨rfl, rfl, rfl⟩ -
                refine wq_goto (tgt := 115) rfl rfl ?_
                refine wq_istore (i := 4) (q := 117) rfl rfl (Nat.le_of_ble_eq_true rfl) rfl ?_
                refine wq_iinc (i := 5) (n := 1) (q := 120) rfl rfl rfl (Nat.le_of_ble_eq_true rfl) rfl (by first | omega | (simp [hup]; omega)) (by first | omega | (simp [hup]; omega)) ?_
                refine wq_goto (tgt := 35) rfl rfl ?_
                have hfd := hfr (by omega)
                refine ih _ (by omega) (d + 1) _ _ rfl (by omega) (by omega) (step _ ?_ ?_ ?_)
                · omega
                · first
                  | exact Or.inl rfl
                  | (exfalso; omega)
                  | exact Or.inr ⟨⟨hdp (by omega), by assumption, by omega, by omega⟩, by omega, rfl⟩
                · intro y1 y2
                  have y3 := y1.2.1
                  have y4 := y1.2.2.1
                  first
                  | exact absurd y3 (by assumption)
                  | omega
          · skip
            refine wq_iconst (n := 1) (q := 82) rfl rfl rfl ?_
            refine wq_goto (tgt := 86) rfl rfl ?_
            refine wq_istore (i := 6) (q := 88) rfl rfl (Nat.le_of_ble_eq_true rfl) rfl ?_
            refine wq_iload (i := 6) (q := 90) rfl rfl rfl ?_
            refine wq_if_eq (tgt := 113) (q := 93) rfl rfl rfl (fun c90 => ?_) (fun c90 => ?_)
            · skip
              refine wq_iload (i := 4) (q := 115) rfl rfl rfl ?_
              refine wq_istore (i := 4) (q := 117) rfl rfl (Nat.le_of_ble_eq_true rfl) rfl ?_
              refine wq_iinc (i := 5) (n := 1) (q := 120) rfl rfl rfl (Nat.le_of_ble_eq_true rfl) rfl (by first | omega | (simp [hup]; omega)) (by first | omega | (simp [hup]; omega)) ?_
              refine wq_goto (tgt := 35) rfl rfl ?_
              have hfd := hfr (by omega)
              refine ih _ (by omega) (d + 1) _ _ rfl (by omega) (by omega) (step _ ?_ ?_ ?_)
              · omega
              · first
                | exact Or.inl rfl
                | (exfalso; omega)
                | exact Or.inr ⟨⟨hdp (by omega), by assumption, by omega, by omega⟩, by omega, rfl⟩
              · intro y1 y2
                have y3 := y1.2.1
                have y4 := y1.2.2.1
                first
                | exact absurd y3 (by assumption)
                | omega
            · skip
              refine wq_aload_n (kk := 0) (q := 94) rfl rfl rfl ?_
              refine wq_iload (i := 5) (q := 96) rfl rfl rfl ?_
              refine wq_callV (q := 99) (m' := m_Mo_leavesAt) (R' := rm 2) (As := [_]) rfl rfl l_Mo_250 vm_Mo_leavesAt rfl rfl rfl (Or.inl ⟨rfl, Nat.le_of_ble_eq_true rfl⟩) (Nat.le_of_ble_eq_true rfl) (Nat.le_of_ble_eq_true rfl) (Nat.le_refl _) (Nat.le_refl _) (Nat.le_of_ble_eq_true rfl) (Mo_leavesAt_ok N d h1 r hM (hdp (by omega))) rfl ?_
              rintro rv h1 r ⟨rfl, rfl, rfl⟩ -
              refine wq_iload (i := 4) (q := 101) rfl rfl rfl ?_
              refine wq_icmp_le (tgt := 113) (q := 104) rfl rfl rfl (fun c101 => ?_) (fun c101 => ?_)
              · skip
                refine wq_iload (i := 4) (q := 115) rfl rfl rfl ?_
                refine wq_istore (i := 4) (q := 117) rfl rfl (Nat.le_of_ble_eq_true rfl) rfl ?_
                refine wq_iinc (i := 5) (n := 1) (q := 120) rfl rfl rfl (Nat.le_of_ble_eq_true rfl) rfl (by first | omega | (simp [hup]; omega)) (by first | omega | (simp [hup]; omega)) ?_
                refine wq_goto (tgt := 35) rfl rfl ?_
                have hfd := hfr (by omega)
                refine ih _ (by omega) (d + 1) _ _ rfl (by omega) (by omega) (step _ ?_ ?_ ?_)
                · omega
                · first
                  | exact Or.inl rfl
                  | (exfalso; omega)
                  | exact Or.inr ⟨⟨hdp (by omega), by assumption, by omega, by omega⟩, by omega, rfl⟩
                · intro y1 y2
                  have y3 := y1.2.1
                  have y4 := y1.2.2.1
                  first
                  | exact absurd y3 (by assumption)
                  | omega
              · skip
                refine wq_aload_n (kk := 0) (q := 105) rfl rfl rfl ?_
                refine wq_iload (i := 5) (q := 107) rfl rfl rfl ?_
                refine wq_callV (q := 110) (m' := m_Mo_leavesAt) (R' := rm 2) (As := [_]) rfl rfl l_Mo_250 vm_Mo_leavesAt rfl rfl rfl (Or.inl ⟨rfl, Nat.le_of_ble_eq_true rfl⟩) (Nat.le_of_ble_eq_true rfl) (Nat.le_of_ble_eq_true rfl) (Nat.le_refl _) (Nat.le_refl _) (Nat.le_of_ble_eq_true rfl) (Mo_leavesAt_ok N d h1 r hM (hdp (by omega))) rfl ?_
                rintro rv h1 r ⟨rfl, rfl, rfl⟩ -
                refine wq_goto (tgt := 115) rfl rfl ?_
                refine wq_istore (i := 4) (q := 117) rfl rfl (Nat.le_of_ble_eq_true rfl) rfl ?_
                refine wq_iinc (i := 5) (n := 1) (q := 120) rfl rfl rfl (Nat.le_of_ble_eq_true rfl) rfl (by first | omega | (simp [hup]; omega)) (by first | omega | (simp [hup]; omega)) ?_
                refine wq_goto (tgt := 35) rfl rfl ?_
                have hfd := hfr (by omega)
                refine ih _ (by omega) (d + 1) _ _ rfl (by omega) (by omega) (step _ ?_ ?_ ?_)
                · omega
                · first
                  | exact Or.inl rfl
                  | (exfalso; omega)
                  | exact Or.inr ⟨⟨hdp (by omega), by assumption, by omega, by omega⟩, by omega, rfl⟩
                · intro y1 y2
                  have y3 := y1.2.1
                  have y4 := y1.2.2.1
                  first
                  | exact absurd y3 (by assumption)
                  | omega
set_option maxRecDepth 100000 in
set_option maxHeartbeats 1000000 in
theorem Mo_latest_ok (a b t : Int) (N : mN) (h : mH) (r : mR) (hI : mI h N) : Meets true (rm 7) m_Mo_latest [vR 64, vI a, vI b, vI t] h r (rqQ h r (Ans (kP (nS N) a b (bI (isT t))) (Lq N a b t))) := by
  refine ⟨ok_Mo_latest, Nat.le_of_ble_eq_true rfl, ?_⟩
  refine wq_aload_n (kk := 0) (q := 1) rfl rfl rfl ?_
  refine wq_aload_n (kk := 0) (q := 2) rfl rfl rfl ?_
  refine wq_iload_n (kk := 1) (q := 3) rfl rfl rfl ?_
  refine wq_iload_n (kk := 2) (q := 4) rfl rfl rfl ?_
  refine wq_iload_n (kk := 3) (q := 5) rfl rfl rfl ?_
  refine wq_callV (q := 8) (m' := m_Mo_wayWhy) (R' := rm 3) (As := [_, _, _]) rfl rfl l_Mo_307 vm_Mo_wayWhy rfl rfl rfl (Or.inl ⟨rfl, Nat.le_of_ble_eq_true rfl⟩) (Nat.le_of_ble_eq_true rfl) (Nat.le_of_ble_eq_true rfl) (Nat.le_refl _) (Nat.le_refl _) (Nat.le_of_ble_eq_true rfl) (Mo_wayWhy_ok a b t N h r hI) rfl ?_
  rintro rv h r ⟨rfl, rfl, rfl⟩ -
  generalize hk : kP (nS N) a b (bI (isT t)) = k
  refine wq_callV (q := 11) (m' := m_Mo_isRefused) (R' := rm 1) (As := [_]) rfl rfl l_Mo_228 vm_Mo_isRefused rfl rfl rfl (Or.inl ⟨rfl, Nat.le_of_ble_eq_true rfl⟩) (Nat.le_of_ble_eq_true rfl) (Nat.le_of_ble_eq_true rfl) (Nat.le_refl _) (Nat.le_refl _) (Nat.le_of_ble_eq_true rfl) (Mo_isRefused_ok k h r) rfl ?_
  rintro rv h1 r ⟨rfl, rfl, rfl⟩ -
  have f1 := x_ref_f (S := qF) (C := qK) (h := h) (k := k) (by decide) (by decide) (by decide) (by decide)
  have I1 := mI_f hI f1 (by decide) (by decide)
  refine wq_cif_eq (tgt := 16) (q := 14) rfl rfl rfl (fun c11 => ?_) (fun c11 => ?_)
  · skip
    have k0 : k = 0 := by simpa using c11
    subst k0
    have hab := kP_0 hk
    have ht := bI_ne hab.2
    refine wq_iload_n (kk := 1) (q := 17) rfl rfl rfl ?_
    refine wq_iload_n (kk := 2) (q := 18) rfl rfl rfl ?_
    refine wq_icmp_ne (tgt := 23) (q := 21) rfl rfl rfl (fun c18 => ?_) (fun c18 => ?_)
    · skip
      refine wq_aload_n (kk := 0) (q := 24) rfl rfl rfl ?_
      refine wq_iload_n (kk := 2) (q := 25) rfl rfl rfl ?_
      refine wq_callV (q := 28) (m' := m_Mo_laysGoal) (R' := rm 6) (As := [_]) rfl rfl l_Mo_298 vm_Mo_laysGoal rfl rfl rfl (Or.inl ⟨rfl, Nat.le_of_ble_eq_true rfl⟩) (Nat.le_of_ble_eq_true rfl) (Nat.le_of_ble_eq_true rfl) (Nat.le_refl _) (Nat.le_refl _) (Nat.le_of_ble_eq_true rfl) (Mo_laysGoal_ok N b _ r I1.1) rfl ?_
      rintro rv h2 r ⟨rfl, rfl, f2, hG⟩ -
      have hM2 := isM_f I1.1 f2.1 (by decide)
      have e1 : h2 64 1 = 0 := by rw [f2.2 1 (by decide)]; exact x_ref_1
      have f3 := f1.tr (lgq f2) (fun _ y => y) (fun _ y => y)
      have hn := hM2.1.1
      refine wq_bipush (n := -2) (q := 30) rfl rfl rfl ?_
      refine wq_istore (i := 4) (q := 32) rfl rfl (Nat.le_of_ble_eq_true rfl) rfl ?_
      refine wq_iconst (n := 0) (q := 33) rfl rfl rfl ?_
      refine wq_istore (i := 5) (q := 35) rfl rfl (Nat.le_of_ble_eq_true rfl) rfl ?_
      exact Mo_latestL N a b t h r h2 hM2 hG ht.2 e1 f3 _ (fun v hv => Or.inr ⟨rfl, rfl, Or.inr ⟨c18, _, _, _, _, _, hG.1, by decide, hv⟩⟩) _ 0 _ none rfl (by omega) (by omega) ⟨Or.inl rfl, by omega, fun g g0 g1 => by have := g1.1.1; omega⟩
    · skip
      refine wq_iload_n (kk := 3) (q := 22) rfl rfl rfl ?_
      exact wq_iret rfl rfl (Nat.le_refl _) (Nat.le_refl _) ⟨_, rfl, rfl, Or.inr ⟨rfl, x_ref_1, Or.inl ⟨c18, rfl⟩⟩, by rw [x_ref_1]; decide, f1⟩
  · skip
    refine wq_iconst (n := -1) (q := 15) rfl rfl rfl ?_
    exact wq_iret rfl rfl (Nat.le_refl _) (Nat.le_refl _) ⟨_, rfl, rfl, Or.inl ⟨c11, rfl, hup_s⟩, by rw [x_ref_1]; have := kP_b (n := nS N) (a := a) (b := b) (g := bI (isT t)); omega, f1⟩
theorem rbits_ok (p : Int → Bool) : ∀ k : Nat, okI (rbits p k)
  | 0 => by
    have : rbits p 0 = 0 := rfl
    rw [this]; exact oi_0
  | k + 1 => by
    by_cases e : p k = true
    · have := rbits_y (p := p) (d := k) (by omega) e
      rw [show ((k : Int) + 1).toNat = k + 1 by omega] at this
      rw [this]; exact oi_of _
    · have := rbits_n (p := p) (d := k) (by omega) (by simpa using e)
      rw [show ((k : Int) + 1).toNat = k + 1 by omega, show ((k : Int)).toNat = k by omega] at this
      rw [this]; exact rbits_ok p k
theorem or_0 {x : Int} (h : okI x) : (Int32.ofInt x ||| Int32.ofInt 0).toInt = x := by
  have : Int32.ofInt x ||| Int32.ofInt 0 = Int32.ofInt x := by
    rw [show Int32.ofInt 0 = (0 : Int32) by decide]
    exact Int32.or_zero
  rw [this, oi_toInt h]
set_option maxRecDepth 100000 in
set_option maxHeartbeats 1000000 in
theorem Mo_reachL (N : mN) (a t y : Int) (h : mH) (r : mR) (ht : isT t) (hy : isT y) (P : Int → Int → Prop) (K : P (rbits (fun s => decide (sn N a t s ≤ y)) (nS N).toNat) 0) : ∀ (M : Nat) (s : Int) (h1 : mH) (x6 : Option mV), (nS N - s).toNat = M → 0 ≤ s → s ≤ nS N → isM h1 N → h1 64 1 = 0 → f64 qF qK h h1 → WP (true, rm 8) m_Mo_reach (rt m_Mo_reach (rm 8) (rqQ h r P)) 50 [some (vR 64), some (vI a), some (vI t), some (vI y), some (vI (rbits (fun s => decide (sn N a t s ≤ y)) s.toNat)), some (vI s), x6] [] h1 r (0, 0) := by
  intro M
  induction M using Nat.strongRecOn with
  | ind M ih =>
    intro s h1 x6 hN s0 s1 hM e1 f1
    have hV := hM.1
    have hS := hV.2.1
    have e4 := hM.2.2.1
    have hbb := bb_bd hV (a := a) (b := s) (t := t) (by omega)
    refine wq_iload (i := 5) (q := 52) rfl rfl rfl ?_
    refine wq_aload_n (kk := 0) (q := 53) rfl rfl rfl ?_
    refine wq_getF (q := 56) f_Mo_17 rfl rfl (Nat.le_of_ble_eq_true rfl) rfl rfl rfl ?_
    refine wq_iconst (n := 1) (q := 57) rfl rfl rfl ?_
    refine wq_iald (q := 58) rfl (Or.inl ⟨rfl, Nat.le_of_ble_eq_true rfl⟩) rfl rfl (by first | omega | (simp [hup]; omega)) (by first | omega | (simp [hup]; omega)) ?_
    refine wq_icmp_ge (tgt := 103) (q := 61) rfl rfl rfl (fun c58 => ?_) (fun c58 => ?_)
    · skip
      refine wq_iload (i := 4) (q := 105) rfl rfl rfl ?_
      have es : s = nS N := by omega
      subst es
      refine wq_iret rfl rfl (Nat.le_refl _) (Nat.le_refl _) ⟨_, rfl, rfl, ?_, by omega, f1⟩
      rw [e1]
      exact K
    · skip
      refine wq_aload_n (kk := 0) (q := 62) rfl rfl rfl ?_
      refine wq_iload_n (kk := 1) (q := 63) rfl rfl rfl ?_
      refine wq_iload (i := 5) (q := 65) rfl rfl rfl ?_
      refine wq_iload_n (kk := 2) (q := 66) rfl rfl rfl ?_
      refine wq_callV (q := 69) (m' := m_Mo_best) (R' := rm 7) (As := [_, _, _]) rfl rfl l_Mo_311 vm_Mo_best rfl rfl rfl (Or.inl ⟨rfl, Nat.le_of_ble_eq_true rfl⟩) (Nat.le_of_ble_eq_true rfl) (Nat.le_of_ble_eq_true rfl) (Nat.le_refl _) (Nat.le_refl _) (Nat.le_of_ble_eq_true rfl) (Mo_best_ok N a s t h1 r hM (by omega) (by omega)) rfl ?_
      rintro rv h2 r ⟨rfl, f2, rfl, -⟩ -
      have hM2 := isM_f hM f2.1 (by decide)
      have e1' : h2 64 1 = 0 := by rw [f2.2 1 (by decide)]; exact e1
      have f3 := f1.tr (lgq f2) (fun _ y => y) (fun _ y => y)
      refine wq_istore (i := 6) (q := 71) rfl rfl (Nat.le_of_ble_eq_true rfl) rfl ?_
      refine wq_iload (i := 4) (q := 73) rfl rfl rfl ?_
      refine wq_iload (i := 6) (q := 75) rfl rfl rfl ?_
      refine wq_bipush (n := -2) (q := 77) rfl rfl rfl ?_
      refine wq_icmp_eq (tgt := 93) (q := 80) rfl rfl rfl (fun c77 => ?_) (fun c77 => ?_)
      · skip
        refine wq_iconst (n := 0) (q := 94) rfl rfl rfl ?_
        refine wq_ior (q := 95) rfl rfl ?_
        refine wq_istore (i := 4) (q := 97) rfl rfl (Nat.le_of_ble_eq_true rfl) rfl ?_
        refine wq_iinc (i := 5) (n := 1) (q := 100) rfl rfl rfl (Nat.le_of_ble_eq_true rfl) rfl (by first | omega | (simp [hup]; omega)) (by first | omega | (simp [hup]; omega)) ?_
        refine wq_goto (tgt := 50) rfl rfl ?_
        first
        | (rw [← rbits_y (p := fun s => decide (sn N a t s ≤ y)) s0 (by simp; omega)]
           exact ih _ (by omega) (s + 1) h2 _ rfl (by omega) (by omega) hM2 e1' f3)
        | (rw [or_0 (rbits_ok _ _), ← rbits_n (p := fun s => decide (sn N a t s ≤ y)) s0 (by simp; omega)]
           exact ih _ (by omega) (s + 1) h2 _ rfl (by omega) (by omega) hM2 e1' f3)
      · skip
        refine wq_iload (i := 6) (q := 82) rfl rfl rfl ?_
        refine wq_iload_n (kk := 3) (q := 83) rfl rfl rfl ?_
        refine wq_icmp_gt (tgt := 93) (q := 86) rfl rfl rfl (fun c83 => ?_) (fun c83 => ?_)
        · skip
          refine wq_iconst (n := 0) (q := 94) rfl rfl rfl ?_
          refine wq_ior (q := 95) rfl rfl ?_
          refine wq_istore (i := 4) (q := 97) rfl rfl (Nat.le_of_ble_eq_true rfl) rfl ?_
          refine wq_iinc (i := 5) (n := 1) (q := 100) rfl rfl rfl (Nat.le_of_ble_eq_true rfl) rfl (by first | omega | (simp [hup]; omega)) (by first | omega | (simp [hup]; omega)) ?_
          refine wq_goto (tgt := 50) rfl rfl ?_
          first
          | (rw [← rbits_y (p := fun s => decide (sn N a t s ≤ y)) s0 (by simp; omega)]
             exact ih _ (by omega) (s + 1) h2 _ rfl (by omega) (by omega) hM2 e1' f3)
          | (rw [or_0 (rbits_ok _ _), ← rbits_n (p := fun s => decide (sn N a t s ≤ y)) s0 (by simp; omega)]
             exact ih _ (by omega) (s + 1) h2 _ rfl (by omega) (by omega) hM2 e1' f3)
        · skip
          refine wq_iconst (n := 1) (q := 87) rfl rfl rfl ?_
          refine wq_iload (i := 5) (q := 89) rfl rfl rfl ?_
          refine wq_ishl (q := 90) rfl rfl ?_
          refine wq_goto (tgt := 94) rfl rfl ?_
          refine wq_ior (q := 95) rfl rfl ?_
          refine wq_istore (i := 4) (q := 97) rfl rfl (Nat.le_of_ble_eq_true rfl) rfl ?_
          refine wq_iinc (i := 5) (n := 1) (q := 100) rfl rfl rfl (Nat.le_of_ble_eq_true rfl) rfl (by first | omega | (simp [hup]; omega)) (by first | omega | (simp [hup]; omega)) ?_
          refine wq_goto (tgt := 50) rfl rfl ?_
          first
          | (rw [← rbits_y (p := fun s => decide (sn N a t s ≤ y)) s0 (by simp; omega)]
             exact ih _ (by omega) (s + 1) h2 _ rfl (by omega) (by omega) hM2 e1' f3)
          | (rw [or_0 (rbits_ok _ _), ← rbits_n (p := fun s => decide (sn N a t s ≤ y)) s0 (by simp; omega)]
             exact ih _ (by omega) (s + 1) h2 _ rfl (by omega) (by omega) hM2 e1' f3)
set_option maxRecDepth 100000 in
set_option maxHeartbeats 1000000 in
theorem Mo_reachA (a t y g : Int) (N : mN) (h : mH) (r : mR) (hI : mI h N) (hg : g = bI (isT t ∧ isT y)) : WP (true, rm 8) m_Mo_reach (rt m_Mo_reach (rm 8) (rqQ h r (Ans (kP (nS N) a a (bI (isT t ∧ isT y))) (fun v tr => tr = 0 ∧ v = rbits (fun s => decide (sn N a t s ≤ y)) (nS N).toNat)))) 33 [some (vR 64), some (vI a), some (vI t), some (vI y), none, none, none] [vI g, vI (bI (0 ≤ a ∧ a < nS N)), vR 64] h r (0, 0) := by
  have hS := hI.1.1.2.1
  subst hg
  refine wq_callS (q := 36) (m' := m_Mo_unless_) (R' := rm 1) (As := [_, _]) rfl rfl l_Mo_304 sm_Mo_unless_ rfl (Nat.le_of_ble_eq_true rfl) (Nat.le_of_ble_eq_true rfl) (Nat.le_refl _) (Nat.le_refl _) (Nat.le_of_ble_eq_true rfl) (Mo_unless2_ok _ _ h r) rfl ?_
  rintro rv h r ⟨rfl, rfl, rfl⟩ -
  have ek : (if bI (0 ≤ a ∧ a < nS N) = 0 then 1 else if bI (isT t ∧ isT y) = 0 then 2 else 0) = kP (nS N) a a (bI (isT t ∧ isT y)) := by
    unfold kP
    by_cases z : 0 ≤ a ∧ a < nS N
    · rw [bI_t z, if_neg (show ¬ (1 : Int) = 0 by decide), if_pos (show (0 ≤ a ∧ a < nS N) ∧ 0 ≤ a ∧ a < nS N from ⟨z, z⟩)]
    · rw [bI_f z, if_pos rfl, if_neg (fun y => z y.1)]
  rw [ek]
  generalize hk : kP (nS N) a a (bI (isT t ∧ isT y)) = k
  refine wq_callV (q := 39) (m' := m_Mo_isRefused) (R' := rm 1) (As := [_]) rfl rfl l_Mo_228 vm_Mo_isRefused rfl rfl rfl (Or.inl ⟨rfl, Nat.le_of_ble_eq_true rfl⟩) (Nat.le_of_ble_eq_true rfl) (Nat.le_of_ble_eq_true rfl) (Nat.le_refl _) (Nat.le_refl _) (Nat.le_of_ble_eq_true rfl) (Mo_isRefused_ok k h r) rfl ?_
  rintro rv h1 r ⟨rfl, rfl, rfl⟩ -
  have f1 := x_ref_f (S := qF) (C := qK) (h := h) (k := k) (by decide) (by decide) (by decide) (by decide)
  have I1 := mI_f hI f1 (by decide) (by decide)
  refine wq_cif_eq (tgt := 44) (q := 42) rfl rfl rfl (fun c39 => ?_) (fun c39 => ?_)
  · skip
    refine wq_iconst (n := 0) (q := 45) rfl rfl rfl ?_
    refine wq_istore (i := 4) (q := 47) rfl rfl (Nat.le_of_ble_eq_true rfl) rfl ?_
    refine wq_iconst (n := 0) (q := 48) rfl rfl rfl ?_
    refine wq_istore (i := 5) (q := 50) rfl rfl (Nat.le_of_ble_eq_true rfl) rfl ?_
    have k0 : k = 0 := by simpa using c39
    subst k0
    have ht := bI_ne (kP_0 hk).2
    exact Mo_reachL N a t y h r ht.1 ht.2 _ (Or.inr ⟨rfl, rfl, rfl⟩) _ 0 _ none rfl (by omega) (by omega) I1.1 x_ref_1 f1
  · skip
    refine wq_iconst (n := -1) (q := 43) rfl rfl rfl ?_
    exact wq_iret rfl rfl (Nat.le_refl _) (Nat.le_refl _) ⟨_, rfl, rfl, Or.inl ⟨c39, rfl, x_ref_1⟩, by rw [x_ref_1]; have := kP_b (n := nS N) (a := a) (b := a) (g := bI (isT t ∧ isT y)); omega, f1⟩
set_option maxRecDepth 100000 in
set_option maxHeartbeats 1000000 in
theorem Mo_reach_ok (a t y : Int) (N : mN) (h : mH) (r : mR) (hI : mI h N) : Meets true (rm 8) m_Mo_reach [vR 64, vI a, vI t, vI y] h r (rqQ h r (Ans (kP (nS N) a a (bI (isT t ∧ isT y))) (fun v tr => tr = 0 ∧ v = rbits (fun s => decide (sn N a t s ≤ y)) (nS N).toNat))) := by
  have e1 := hI.1.2.2.1
  have hS := hI.1.1.2.1
  have hT := hI.2
  refine ⟨ok_Mo_reach, Nat.le_of_ble_eq_true rfl, ?_⟩
  refine wq_aload_n (kk := 0) (q := 1) rfl rfl rfl ?_
  refine wq_aload_n (kk := 0) (q := 2) rfl rfl rfl ?_
  refine wq_iload_n (kk := 1) (q := 3) rfl rfl rfl ?_
  refine wq_callV (q := 6) (m' := m_Mo_isSpot) (R' := rm 2) (As := [_]) rfl rfl l_Mo_263 vm_Mo_isSpot rfl rfl rfl (Or.inl ⟨rfl, Nat.le_of_ble_eq_true rfl⟩) (Nat.le_of_ble_eq_true rfl) (Nat.le_of_ble_eq_true rfl) (Nat.le_refl _) (Nat.le_refl _) (Nat.le_of_ble_eq_true rfl) (Mo_isSpot_ok a h r (by omega) (by omega) (by omega)) rfl ?_
  rintro rv h r ⟨rfl, rfl, rfl⟩ -
  rw [e1]
  refine wq_iload_n (kk := 2) (q := 7) rfl rfl rfl ?_
  refine wq_iconst (n := 0) (q := 8) rfl rfl rfl ?_
  refine wq_sipush (n := 1999) (q := 11) rfl rfl rfl ?_
  refine wq_callS (q := 14) (m' := m_Mo_in) (R' := rm 1) (As := [_, _, _]) rfl rfl l_Mo_107 sm_Mo_in rfl (Nat.le_of_ble_eq_true rfl) (Nat.le_of_ble_eq_true rfl) (Nat.le_refl _) (Nat.le_refl _) (Nat.le_of_ble_eq_true rfl) (Mo_in_ok _ _ _ h r) rfl ?_
  rintro rv h r ⟨rfl, rfl, rfl⟩ -
  refine wq_cif_eq (tgt := 32) (q := 17) rfl rfl rfl (fun c14 => ?_) (fun c14 => ?_)
  · skip
    refine wq_iconst (n := 0) (q := 33) rfl rfl rfl ?_
    first
    | exact Mo_reachA a t y 1 N h r hI (bI_t ⟨by assumption, by assumption⟩).symm
    | exact Mo_reachA a t y 0 N h r hI (bI_f (fun z => by first | exact c14 z.1 | exact c25 z.2)).symm
  · skip
    refine wq_iload_n (kk := 3) (q := 18) rfl rfl rfl ?_
    refine wq_iconst (n := 0) (q := 19) rfl rfl rfl ?_
    refine wq_sipush (n := 1999) (q := 22) rfl rfl rfl ?_
    refine wq_callS (q := 25) (m' := m_Mo_in) (R' := rm 1) (As := [_, _, _]) rfl rfl l_Mo_107 sm_Mo_in rfl (Nat.le_of_ble_eq_true rfl) (Nat.le_of_ble_eq_true rfl) (Nat.le_refl _) (Nat.le_refl _) (Nat.le_of_ble_eq_true rfl) (Mo_in_ok _ _ _ h r) rfl ?_
    rintro rv h r ⟨rfl, rfl, rfl⟩ -
    refine wq_cif_eq (tgt := 32) (q := 28) rfl rfl rfl (fun c25 => ?_) (fun c25 => ?_)
    · skip
      refine wq_iconst (n := 0) (q := 33) rfl rfl rfl ?_
      first
      | exact Mo_reachA a t y 1 N h r hI (bI_t ⟨by assumption, by assumption⟩).symm
      | exact Mo_reachA a t y 0 N h r hI (bI_f (fun z => by first | exact c14 z.1 | exact c25 z.2)).symm
    · skip
      refine wq_iconst (n := 1) (q := 29) rfl rfl rfl ?_
      refine wq_goto (tgt := 33) rfl rfl ?_
      first
      | exact Mo_reachA a t y 1 N h r hI (bI_t ⟨by assumption, by assumption⟩).symm
      | exact Mo_reachA a t y 0 N h r hI (bI_f (fun z => by first | exact c14 z.1 | exact c25 z.2)).symm
/-- of Fa, of spots of less number than n; -1 if there is none -/
def FaI (f : mF) (n v w : Int) : Prop := (v = -1 ∧ w = -2 ∧ ∀ s, 0 ≤ s → s < n → ¬ f s < 1000000) ∨ (Fa f n v ∧ w = f v)
set_option maxRecDepth 100000 in
set_option maxHeartbeats 1000000 in
theorem Mo_farL (N : mN) (a t : Int) (h : mH) (r : mR) (ht : isT t) (ha : 0 ≤ a ∧ a < nS N) (P : Int → Int → Prop) (K : ∀ v, Fa (sn N a t) (nS N) v → P v 0) : ∀ (M : Nat) (s v w : Int) (h1 : mH) (x6 : Option mV), (nS N - s).toNat = M → 0 ≤ s → s ≤ nS N → isM h1 N → h1 64 1 = 0 → f64 qF qK h h1 → FaI (sn N a t) s v w → WP (true, rm 8) m_Mo_farthest (rt m_Mo_farthest (rm 8) (rqQ h r P)) 34 [some (vR 64), some (vI a), some (vI t), some (vI v), some (vI w), some (vI s), x6] [] h1 r (0, 0) := by
  intro M
  induction M using Nat.strongRecOn with
  | ind M ih =>
    intro s v w h1 x6 hN s0 s1 hM e1 f1 hF
    have hV := hM.1
    have hS := hV.2.1
    have e4 := hM.2.2.1
    have hbb := bb_bd hV (a := a) (b := s) (t := t) (by omega)
    have hbv := sn_bd hV (a := a) (b := v) (t := t) (by omega)
    refine wq_iload (i := 5) (q := 36) rfl rfl rfl ?_
    refine wq_aload_n (kk := 0) (q := 37) rfl rfl rfl ?_
    refine wq_getF (q := 40) f_Mo_17 rfl rfl (Nat.le_of_ble_eq_true rfl) rfl rfl rfl ?_
    refine wq_iconst (n := 1) (q := 41) rfl rfl rfl ?_
    refine wq_iald (q := 42) rfl (Or.inl ⟨rfl, Nat.le_of_ble_eq_true rfl⟩) rfl rfl (by first | omega | (simp [hup]; omega)) (by first | omega | (simp [hup]; omega)) ?_
    refine wq_icmp_ge (tgt := 75) (q := 45) rfl rfl rfl (fun c42 => ?_) (fun c42 => ?_)
    · skip
      refine wq_iload_n (kk := 3) (q := 76) rfl rfl rfl ?_
      have es : s = nS N := by omega
      subst es
      refine wq_iret rfl rfl (Nat.le_refl _) (Nat.le_refl _) ⟨_, rfl, rfl, ?_, by omega, f1⟩
      rw [e1]
      rcases hF with ⟨-, -, z3⟩ | ⟨z, -⟩
      · exact absurd (show sn N a t a < 1000000 by rw [sn_a]; omega) (z3 a ha.1 ha.2)
      · exact K v z
    · skip
      refine wq_aload_n (kk := 0) (q := 46) rfl rfl rfl ?_
      refine wq_iload_n (kk := 1) (q := 47) rfl rfl rfl ?_
      refine wq_iload (i := 5) (q := 49) rfl rfl rfl ?_
      refine wq_iload_n (kk := 2) (q := 50) rfl rfl rfl ?_
      refine wq_callV (q := 53) (m' := m_Mo_best) (R' := rm 7) (As := [_, _, _]) rfl rfl l_Mo_311 vm_Mo_best rfl rfl rfl (Or.inl ⟨rfl, Nat.le_of_ble_eq_true rfl⟩) (Nat.le_of_ble_eq_true rfl) (Nat.le_of_ble_eq_true rfl) (Nat.le_refl _) (Nat.le_refl _) (Nat.le_of_ble_eq_true rfl) (Mo_best_ok N a s t h1 r hM (by omega) (by omega)) rfl ?_
      rintro rv h2 r ⟨rfl, f2, rfl, -⟩ -
      have hM2 := isM_f hM f2.1 (by decide)
      have e1' : h2 64 1 = 0 := by rw [f2.2 1 (by decide)]; exact e1
      have f3 := f1.tr (lgq f2) (fun _ y => y) (fun _ y => y)
      refine wq_istore (i := 6) (q := 55) rfl rfl (Nat.le_of_ble_eq_true rfl) rfl ?_
      refine wq_iload (i := 6) (q := 57) rfl rfl rfl ?_
      refine wq_iload (i := 4) (q := 59) rfl rfl rfl ?_
      refine wq_icmp_le (tgt := 69) (q := 62) rfl rfl rfl (fun c59 => ?_) (fun c59 => ?_)
      · skip
        refine wq_iinc (i := 5) (n := 1) (q := 72) rfl rfl rfl (Nat.le_of_ble_eq_true rfl) rfl (by first | omega | (simp [hup]; omega)) (by first | omega | (simp [hup]; omega)) ?_
        refine wq_goto (tgt := 34) rfl rfl ?_
        refine ih _ (by omega) (s + 1) _ _ h2 _ rfl (by omega) (by omega) hM2 e1' f3 ?_
        rcases hF with ⟨z1, z2, z3⟩ | ⟨⟨z1, z2, z3⟩, z4⟩
        · first
          | (refine Or.inl ⟨z1, z2, fun x x0 x1 => ?_⟩
             by_cases e : x = s
             · subst e; omega
             · exact z3 x x0 (by omega))
          | (refine Or.inr ⟨⟨by omega, by omega, fun x x0 x1 x2 => ?_⟩, by omega⟩
             by_cases e : x = s
             · subst e; omega
             · exact absurd x2 (z3 x x0 (by omega)))
        · first
          | (refine Or.inr ⟨⟨by omega, z2, fun x x0 x1 x2 => ?_⟩, z4⟩
             by_cases e : x = s
             · subst e; omega
             · exact z3 x x0 (by omega) x2)
          | (refine Or.inr ⟨⟨by omega, by omega, fun x x0 x1 x2 => ?_⟩, by omega⟩
             by_cases e : x = s
             · subst e; omega
             · have := z3 x x0 (by omega) x2; omega)
      · skip
        refine wq_iload (i := 6) (q := 64) rfl rfl rfl ?_
        refine wq_istore (i := 4) (q := 66) rfl rfl (Nat.le_of_ble_eq_true rfl) rfl ?_
        refine wq_iload (i := 5) (q := 68) rfl rfl rfl ?_
        refine wq_istore_n (kk := 3) (q := 69) rfl rfl (Nat.le_of_ble_eq_true rfl) rfl ?_
        refine wq_iinc (i := 5) (n := 1) (q := 72) rfl rfl rfl (Nat.le_of_ble_eq_true rfl) rfl (by first | omega | (simp [hup]; omega)) (by first | omega | (simp [hup]; omega)) ?_
        refine wq_goto (tgt := 34) rfl rfl ?_
        refine ih _ (by omega) (s + 1) _ _ h2 _ rfl (by omega) (by omega) hM2 e1' f3 ?_
        rcases hF with ⟨z1, z2, z3⟩ | ⟨⟨z1, z2, z3⟩, z4⟩
        · first
          | (refine Or.inl ⟨z1, z2, fun x x0 x1 => ?_⟩
             by_cases e : x = s
             · subst e; omega
             · exact z3 x x0 (by omega))
          | (refine Or.inr ⟨⟨by omega, by omega, fun x x0 x1 x2 => ?_⟩, by omega⟩
             by_cases e : x = s
             · subst e; omega
             · exact absurd x2 (z3 x x0 (by omega)))
        · first
          | (refine Or.inr ⟨⟨by omega, z2, fun x x0 x1 x2 => ?_⟩, z4⟩
             by_cases e : x = s
             · subst e; omega
             · exact z3 x x0 (by omega) x2)
          | (refine Or.inr ⟨⟨by omega, by omega, fun x x0 x1 x2 => ?_⟩, by omega⟩
             by_cases e : x = s
             · subst e; omega
             · have := z3 x x0 (by omega) x2; omega)
set_option maxRecDepth 100000 in
set_option maxHeartbeats 1000000 in
theorem Mo_farthest_ok (a t : Int) (N : mN) (h : mH) (r : mR) (hI : mI h N) : Meets true (rm 8) m_Mo_farthest [vR 64, vI a, vI t] h r (rqQ h r (Ans (kP (nS N) a a (bI (isT t))) (fun v tr => tr = 0 ∧ Fa (sn N a t) (nS N) v))) := by
  have e1 := hI.1.2.2.1
  have hS := hI.1.1.2.1
  have hT := hI.2
  refine ⟨ok_Mo_farthest, Nat.le_of_ble_eq_true rfl, ?_⟩
  refine wq_aload_n (kk := 0) (q := 1) rfl rfl rfl ?_
  refine wq_aload_n (kk := 0) (q := 2) rfl rfl rfl ?_
  refine wq_iload_n (kk := 1) (q := 3) rfl rfl rfl ?_
  refine wq_callV (q := 6) (m' := m_Mo_isSpot) (R' := rm 2) (As := [_]) rfl rfl l_Mo_263 vm_Mo_isSpot rfl rfl rfl (Or.inl ⟨rfl, Nat.le_of_ble_eq_true rfl⟩) (Nat.le_of_ble_eq_true rfl) (Nat.le_of_ble_eq_true rfl) (Nat.le_refl _) (Nat.le_refl _) (Nat.le_of_ble_eq_true rfl) (Mo_isSpot_ok a h r (by omega) (by omega) (by omega)) rfl ?_
  rintro rv h r ⟨rfl, rfl, rfl⟩ -
  rw [e1]
  refine wq_iload_n (kk := 2) (q := 7) rfl rfl rfl ?_
  refine wq_iconst (n := 0) (q := 8) rfl rfl rfl ?_
  refine wq_sipush (n := 1999) (q := 11) rfl rfl rfl ?_
  refine wq_callS (q := 14) (m' := m_Mo_in) (R' := rm 1) (As := [_, _, _]) rfl rfl l_Mo_107 sm_Mo_in rfl (Nat.le_of_ble_eq_true rfl) (Nat.le_of_ble_eq_true rfl) (Nat.le_refl _) (Nat.le_refl _) (Nat.le_of_ble_eq_true rfl) (Mo_in_ok _ _ _ h r) rfl ?_
  rintro rv h r ⟨rfl, rfl, rfl⟩ -
  refine wq_callS (q := 17) (m' := m_Mo_unless_) (R' := rm 1) (As := [_, _]) rfl rfl l_Mo_304 sm_Mo_unless_ rfl (Nat.le_of_ble_eq_true rfl) (Nat.le_of_ble_eq_true rfl) (Nat.le_refl _) (Nat.le_refl _) (Nat.le_of_ble_eq_true rfl) (Mo_unless2_ok _ _ h r) rfl ?_
  rintro rv h r ⟨rfl, rfl, rfl⟩ -
  have ek : (if bI (0 ≤ a ∧ a < nS N) = 0 then 1 else if bI (0 ≤ t ∧ t ≤ 1999) = 0 then 2 else 0) = kP (nS N) a a (bI (isT t)) := by
    unfold kP
    by_cases z : 0 ≤ a ∧ a < nS N
    · rw [bI_t z, if_neg (show ¬ (1 : Int) = 0 by decide), if_pos (show (0 ≤ a ∧ a < nS N) ∧ 0 ≤ a ∧ a < nS N from ⟨z, z⟩)]
    · rw [bI_f z, if_pos rfl, if_neg (fun y => z y.1)]
  rw [ek]
  generalize hk : kP (nS N) a a (bI (isT t)) = k
  refine wq_callV (q := 20) (m' := m_Mo_isRefused) (R' := rm 1) (As := [_]) rfl rfl l_Mo_228 vm_Mo_isRefused rfl rfl rfl (Or.inl ⟨rfl, Nat.le_of_ble_eq_true rfl⟩) (Nat.le_of_ble_eq_true rfl) (Nat.le_of_ble_eq_true rfl) (Nat.le_refl _) (Nat.le_refl _) (Nat.le_of_ble_eq_true rfl) (Mo_isRefused_ok k h r) rfl ?_
  rintro rv h1 r ⟨rfl, rfl, rfl⟩ -
  have f1 := x_ref_f (S := qF) (C := qK) (h := h) (k := k) (by decide) (by decide) (by decide) (by decide)
  have I1 := mI_f hI f1 (by decide) (by decide)
  refine wq_cif_eq (tgt := 25) (q := 23) rfl rfl rfl (fun c20 => ?_) (fun c20 => ?_)
  · skip
    refine wq_iconst (n := -1) (q := 26) rfl rfl rfl ?_
    refine wq_istore_n (kk := 3) (q := 27) rfl rfl (Nat.le_of_ble_eq_true rfl) rfl ?_
    refine wq_bipush (n := -2) (q := 29) rfl rfl rfl ?_
    refine wq_istore (i := 4) (q := 31) rfl rfl (Nat.le_of_ble_eq_true rfl) rfl ?_
    refine wq_iconst (n := 0) (q := 32) rfl rfl rfl ?_
    refine wq_istore (i := 5) (q := 34) rfl rfl (Nat.le_of_ble_eq_true rfl) rfl ?_
    have k0 : k = 0 := by simpa using c20
    subst k0
    have ht := bI_ne (kP_0 hk).2
    exact Mo_farL N a t h r ht (kP_0 hk).1.1 _ (fun v hv => Or.inr ⟨rfl, rfl, hv⟩) _ 0 _ _ _ none rfl (by omega) (by omega) I1.1 x_ref_1 f1 (Or.inl ⟨rfl, rfl, fun s s0 s1 => by omega⟩)
  · skip
    refine wq_iconst (n := -1) (q := 24) rfl rfl rfl ?_
    exact wq_iret rfl rfl (Nat.le_refl _) (Nat.le_refl _) ⟨_, rfl, rfl, Or.inl ⟨c20, rfl, x_ref_1⟩, by rw [x_ref_1]; have := kP_b (n := nS N) (a := a) (b := a) (g := bI (isT t)); omega, f1⟩
/-- of Me, of spots of less number than n -/
def MeI (f g : mF) (n v w : Int) : Prop := (v = -2 ∧ w = 9999 ∧ ∀ s, 0 ≤ s → s < n → ¬ mx2 (f s) (g s) < 1000000) ∨ ((0 ≤ v ∧ v < n) ∧ w = mx2 (f v) (g v) ∧ mx2 (f v) (g v) < 1000000 ∧ ∀ s, 0 ≤ s → s < n → mx2 (f v) (g v) ≤ mx2 (f s) (g s) ∧ (s < v → mx2 (f v) (g v) < mx2 (f s) (g s)))
theorem mx2_d {x y : Int} : (y ≤ x ∧ mx2 x y = x) ∨ (x < y ∧ mx2 x y = y) := by
  unfold mx2
  split <;> omega
set_option maxRecDepth 100000 in
set_option maxHeartbeats 1000000 in
theorem Mo_meetL (N : mN) (a b t : Int) (h : mH) (r : mR) (ht : isT t) (P : Int → Int → Prop) (K : ∀ v, Me (sn N a t) (sn N b t) (nS N) v → P v 0) : ∀ (M : Nat) (s v w : Int) (h1 : mH) (x7 x8 x9 : Option mV), (nS N - s).toNat = M → 0 ≤ s → s ≤ nS N → isM h1 N → h1 64 1 = 0 → f64 qF qK h h1 → MeI (sn N a t) (sn N b t) s v w → WP (true, rm 8) m_Mo_meets (rt m_Mo_meets (rm 8) (rqQ h r P)) 28 [some (vR 64), some (vI a), some (vI b), some (vI t), some (vI v), some (vI w), some (vI s), x7, x8, x9] [] h1 r (0, 0) := by
  intro M
  induction M using Nat.strongRecOn with
  | ind M ih =>
    intro s v w h1 x7 x8 x9 hN s0 s1 hM e1 f1 hF
    have hV := hM.1
    have hS := hV.2.1
    have e4 := hM.2.2.1
    have hbb := bb_bd hV (a := a) (b := s) (t := t) (by omega)
    have hbb2 := bb_bd hV (a := b) (b := s) (t := t) (by omega)
    have hmx := mx2_d (x := sn N a t s) (y := sn N b t s)
    refine wq_iload (i := 6) (q := 30) rfl rfl rfl ?_
    refine wq_aload_n (kk := 0) (q := 31) rfl rfl rfl ?_
    refine wq_getF (q := 34) f_Mo_17 rfl rfl (Nat.le_of_ble_eq_true rfl) rfl rfl rfl ?_
    refine wq_iconst (n := 1) (q := 35) rfl rfl rfl ?_
    refine wq_iald (q := 36) rfl (Or.inl ⟨rfl, Nat.le_of_ble_eq_true rfl⟩) rfl rfl (by first | omega | (simp [hup]; omega)) (by first | omega | (simp [hup]; omega)) ?_
    refine wq_icmp_ge (tgt := 110) (q := 39) rfl rfl rfl (fun c36 => ?_) (fun c36 => ?_)
    · skip
      refine wq_iload (i := 4) (q := 112) rfl rfl rfl ?_
      have es : s = nS N := by omega
      subst es
      refine wq_iret rfl rfl (Nat.le_refl _) (Nat.le_refl _) ⟨_, rfl, rfl, ?_, by omega, f1⟩
      rw [e1]
      refine K v ?_
      rcases hF with ⟨z1, z2, z3⟩ | ⟨z1, z2, z4, z3⟩
      · exact Or.inl ⟨z1, z3⟩
      · exact Or.inr ⟨z1, z4, z3⟩
    · skip
      refine wq_aload_n (kk := 0) (q := 40) rfl rfl rfl ?_
      refine wq_iload_n (kk := 1) (q := 41) rfl rfl rfl ?_
      refine wq_iload (i := 6) (q := 43) rfl rfl rfl ?_
      refine wq_iload_n (kk := 3) (q := 44) rfl rfl rfl ?_
      refine wq_callV (q := 47) (m' := m_Mo_best) (R' := rm 7) (As := [_, _, _]) rfl rfl l_Mo_311 vm_Mo_best rfl rfl rfl (Or.inl ⟨rfl, Nat.le_of_ble_eq_true rfl⟩) (Nat.le_of_ble_eq_true rfl) (Nat.le_of_ble_eq_true rfl) (Nat.le_refl _) (Nat.le_refl _) (Nat.le_of_ble_eq_true rfl) (Mo_best_ok N a s t h1 r hM (by omega) (by omega)) rfl ?_
      rintro rv h2 r ⟨rfl, f2, rfl, -⟩ -
      have hM2 := isM_f hM f2.1 (by decide)
      have e1' : h2 64 1 = 0 := by rw [f2.2 1 (by decide)]; exact e1
      have f3 := f1.tr (lgq f2) (fun _ y => y) (fun _ y => y)
      refine wq_istore (i := 7) (q := 49) rfl rfl (Nat.le_of_ble_eq_true rfl) rfl ?_
      refine wq_aload_n (kk := 0) (q := 50) rfl rfl rfl ?_
      refine wq_iload_n (kk := 2) (q := 51) rfl rfl rfl ?_
      refine wq_iload (i := 6) (q := 53) rfl rfl rfl ?_
      refine wq_iload_n (kk := 3) (q := 54) rfl rfl rfl ?_
      refine wq_callV (q := 57) (m' := m_Mo_best) (R' := rm 7) (As := [_, _, _]) rfl rfl l_Mo_311 vm_Mo_best rfl rfl rfl (Or.inl ⟨rfl, Nat.le_of_ble_eq_true rfl⟩) (Nat.le_of_ble_eq_true rfl) (Nat.le_of_ble_eq_true rfl) (Nat.le_refl _) (Nat.le_refl _) (Nat.le_of_ble_eq_true rfl) (Mo_best_ok N b s t h2 r hM2 (by omega) (by omega)) rfl ?_
      rintro rv h3 r ⟨rfl, g2, rfl, -⟩ -
      have hM3 := isM_f hM2 g2.1 (by decide)
      have e1'' : h3 64 1 = 0 := by rw [g2.2 1 (by decide)]; exact e1'
      have f4 := f3.tr (lgq g2) (fun _ y => y) (fun _ y => y)
      refine wq_istore (i := 8) (q := 59) rfl rfl (Nat.le_of_ble_eq_true rfl) rfl ?_
      refine wq_iload (i := 7) (q := 61) rfl rfl rfl ?_
      refine wq_iload (i := 8) (q := 63) rfl rfl rfl ?_
      refine wq_icmp_le (tgt := 71) (q := 66) rfl rfl rfl (fun c63 => ?_) (fun c63 => ?_)
      · skip
        refine wq_iload (i := 8) (q := 73) rfl rfl rfl ?_
        refine wq_istore (i := 9) (q := 75) rfl rfl (Nat.le_of_ble_eq_true rfl) rfl ?_
        refine wq_iload (i := 7) (q := 77) rfl rfl rfl ?_
        refine wq_bipush (n := -2) (q := 79) rfl rfl rfl ?_
        refine wq_icmp_eq (tgt := 104) (q := 82) rfl rfl rfl (fun c79 => ?_) (fun c79 => ?_)
        · skip
          refine wq_iinc (i := 6) (n := 1) (q := 107) rfl rfl rfl (Nat.le_of_ble_eq_true rfl) rfl (by first | omega | (simp [hup]; omega)) (by first | omega | (simp [hup]; omega)) ?_
          refine wq_goto (tgt := 28) rfl rfl ?_
          refine ih _ (by omega) (s + 1) _ _ h3 _ _ _ rfl (by omega) (by omega) hM3 e1'' f4 ?_
          rcases hF with ⟨z1, z2, z3⟩ | ⟨z1, z2, z4, z3⟩
          · first
            | (refine Or.inl ⟨z1, z2, fun x x0 x1 => ?_⟩
               by_cases e : x = s
               · subst e; omega
               · exact z3 x x0 (by omega))
            | (refine Or.inr ⟨by omega, by omega, by omega, fun x x0 x1 => ?_⟩
               by_cases e : x = s
               · subst e; omega
               · have := z3 x x0 (by omega); omega)
          · first
            | (refine Or.inr ⟨by omega, z2, z4, fun x x0 x1 => ?_⟩
               by_cases e : x = s
               · subst e; omega
               · exact z3 x x0 (by omega))
            | (refine Or.inr ⟨by omega, by omega, by omega, fun x x0 x1 => ?_⟩
               by_cases e : x = s
               · subst e; omega
               · have := z3 x x0 (by omega); omega)
        · skip
          refine wq_iload (i := 8) (q := 84) rfl rfl rfl ?_
          refine wq_bipush (n := -2) (q := 86) rfl rfl rfl ?_
          refine wq_icmp_eq (tgt := 104) (q := 89) rfl rfl rfl (fun c86 => ?_) (fun c86 => ?_)
          · skip
            refine wq_iinc (i := 6) (n := 1) (q := 107) rfl rfl rfl (Nat.le_of_ble_eq_true rfl) rfl (by first | omega | (simp [hup]; omega)) (by first | omega | (simp [hup]; omega)) ?_
            refine wq_goto (tgt := 28) rfl rfl ?_
            refine ih _ (by omega) (s + 1) _ _ h3 _ _ _ rfl (by omega) (by omega) hM3 e1'' f4 ?_
            rcases hF with ⟨z1, z2, z3⟩ | ⟨z1, z2, z4, z3⟩
            · first
              | (refine Or.inl ⟨z1, z2, fun x x0 x1 => ?_⟩
                 by_cases e : x = s
                 · subst e; omega
                 · exact z3 x x0 (by omega))
              | (refine Or.inr ⟨by omega, by omega, by omega, fun x x0 x1 => ?_⟩
                 by_cases e : x = s
                 · subst e; omega
                 · have := z3 x x0 (by omega); omega)
            · first
              | (refine Or.inr ⟨by omega, z2, z4, fun x x0 x1 => ?_⟩
                 by_cases e : x = s
                 · subst e; omega
                 · exact z3 x x0 (by omega))
              | (refine Or.inr ⟨by omega, by omega, by omega, fun x x0 x1 => ?_⟩
                 by_cases e : x = s
                 · subst e; omega
                 · have := z3 x x0 (by omega); omega)
          · skip
            refine wq_iload (i := 9) (q := 91) rfl rfl rfl ?_
            refine wq_iload (i := 5) (q := 93) rfl rfl rfl ?_
            refine wq_icmp_ge (tgt := 104) (q := 96) rfl rfl rfl (fun c93 => ?_) (fun c93 => ?_)
            · skip
              refine wq_iinc (i := 6) (n := 1) (q := 107) rfl rfl rfl (Nat.le_of_ble_eq_true rfl) rfl (by first | omega | (simp [hup]; omega)) (by first | omega | (simp [hup]; omega)) ?_
              refine wq_goto (tgt := 28) rfl rfl ?_
              refine ih _ (by omega) (s + 1) _ _ h3 _ _ _ rfl (by omega) (by omega) hM3 e1'' f4 ?_
              rcases hF with ⟨z1, z2, z3⟩ | ⟨z1, z2, z4, z3⟩
              · first
                | (refine Or.inl ⟨z1, z2, fun x x0 x1 => ?_⟩
                   by_cases e : x = s
                   · subst e; omega
                   · exact z3 x x0 (by omega))
                | (refine Or.inr ⟨by omega, by omega, by omega, fun x x0 x1 => ?_⟩
                   by_cases e : x = s
                   · subst e; omega
                   · have := z3 x x0 (by omega); omega)
              · first
                | (refine Or.inr ⟨by omega, z2, z4, fun x x0 x1 => ?_⟩
                   by_cases e : x = s
                   · subst e; omega
                   · exact z3 x x0 (by omega))
                | (refine Or.inr ⟨by omega, by omega, by omega, fun x x0 x1 => ?_⟩
                   by_cases e : x = s
                   · subst e; omega
                   · have := z3 x x0 (by omega); omega)
            · skip
              refine wq_iload (i := 9) (q := 98) rfl rfl rfl ?_
              refine wq_istore (i := 5) (q := 100) rfl rfl (Nat.le_of_ble_eq_true rfl) rfl ?_
              refine wq_iload (i := 6) (q := 102) rfl rfl rfl ?_
              refine wq_istore (i := 4) (q := 104) rfl rfl (Nat.le_of_ble_eq_true rfl) rfl ?_
              refine wq_iinc (i := 6) (n := 1) (q := 107) rfl rfl rfl (Nat.le_of_ble_eq_true rfl) rfl (by first | omega | (simp [hup]; omega)) (by first | omega | (simp [hup]; omega)) ?_
              refine wq_goto (tgt := 28) rfl rfl ?_
              refine ih _ (by omega) (s + 1) _ _ h3 _ _ _ rfl (by omega) (by omega) hM3 e1'' f4 ?_
              rcases hF with ⟨z1, z2, z3⟩ | ⟨z1, z2, z4, z3⟩
              · first
                | (refine Or.inl ⟨z1, z2, fun x x0 x1 => ?_⟩
                   by_cases e : x = s
                   · subst e; omega
                   · exact z3 x x0 (by omega))
                | (refine Or.inr ⟨by omega, by omega, by omega, fun x x0 x1 => ?_⟩
                   by_cases e : x = s
                   · subst e; omega
                   · have := z3 x x0 (by omega); omega)
              · first
                | (refine Or.inr ⟨by omega, z2, z4, fun x x0 x1 => ?_⟩
                   by_cases e : x = s
                   · subst e; omega
                   · exact z3 x x0 (by omega))
                | (refine Or.inr ⟨by omega, by omega, by omega, fun x x0 x1 => ?_⟩
                   by_cases e : x = s
                   · subst e; omega
                   · have := z3 x x0 (by omega); omega)
      · skip
        refine wq_iload (i := 7) (q := 68) rfl rfl rfl ?_
        refine wq_goto (tgt := 73) rfl rfl ?_
        refine wq_istore (i := 9) (q := 75) rfl rfl (Nat.le_of_ble_eq_true rfl) rfl ?_
        refine wq_iload (i := 7) (q := 77) rfl rfl rfl ?_
        refine wq_bipush (n := -2) (q := 79) rfl rfl rfl ?_
        refine wq_icmp_eq (tgt := 104) (q := 82) rfl rfl rfl (fun c79 => ?_) (fun c79 => ?_)
        · skip
          refine wq_iinc (i := 6) (n := 1) (q := 107) rfl rfl rfl (Nat.le_of_ble_eq_true rfl) rfl (by first | omega | (simp [hup]; omega)) (by first | omega | (simp [hup]; omega)) ?_
          refine wq_goto (tgt := 28) rfl rfl ?_
          refine ih _ (by omega) (s + 1) _ _ h3 _ _ _ rfl (by omega) (by omega) hM3 e1'' f4 ?_
          rcases hF with ⟨z1, z2, z3⟩ | ⟨z1, z2, z4, z3⟩
          · first
            | (refine Or.inl ⟨z1, z2, fun x x0 x1 => ?_⟩
               by_cases e : x = s
               · subst e; omega
               · exact z3 x x0 (by omega))
            | (refine Or.inr ⟨by omega, by omega, by omega, fun x x0 x1 => ?_⟩
               by_cases e : x = s
               · subst e; omega
               · have := z3 x x0 (by omega); omega)
          · first
            | (refine Or.inr ⟨by omega, z2, z4, fun x x0 x1 => ?_⟩
               by_cases e : x = s
               · subst e; omega
               · exact z3 x x0 (by omega))
            | (refine Or.inr ⟨by omega, by omega, by omega, fun x x0 x1 => ?_⟩
               by_cases e : x = s
               · subst e; omega
               · have := z3 x x0 (by omega); omega)
        · skip
          refine wq_iload (i := 8) (q := 84) rfl rfl rfl ?_
          refine wq_bipush (n := -2) (q := 86) rfl rfl rfl ?_
          refine wq_icmp_eq (tgt := 104) (q := 89) rfl rfl rfl (fun c86 => ?_) (fun c86 => ?_)
          · skip
            refine wq_iinc (i := 6) (n := 1) (q := 107) rfl rfl rfl (Nat.le_of_ble_eq_true rfl) rfl (by first | omega | (simp [hup]; omega)) (by first | omega | (simp [hup]; omega)) ?_
            refine wq_goto (tgt := 28) rfl rfl ?_
            refine ih _ (by omega) (s + 1) _ _ h3 _ _ _ rfl (by omega) (by omega) hM3 e1'' f4 ?_
            rcases hF with ⟨z1, z2, z3⟩ | ⟨z1, z2, z4, z3⟩
            · first
              | (refine Or.inl ⟨z1, z2, fun x x0 x1 => ?_⟩
                 by_cases e : x = s
                 · subst e; omega
                 · exact z3 x x0 (by omega))
              | (refine Or.inr ⟨by omega, by omega, by omega, fun x x0 x1 => ?_⟩
                 by_cases e : x = s
                 · subst e; omega
                 · have := z3 x x0 (by omega); omega)
            · first
              | (refine Or.inr ⟨by omega, z2, z4, fun x x0 x1 => ?_⟩
                 by_cases e : x = s
                 · subst e; omega
                 · exact z3 x x0 (by omega))
              | (refine Or.inr ⟨by omega, by omega, by omega, fun x x0 x1 => ?_⟩
                 by_cases e : x = s
                 · subst e; omega
                 · have := z3 x x0 (by omega); omega)
          · skip
            refine wq_iload (i := 9) (q := 91) rfl rfl rfl ?_
            refine wq_iload (i := 5) (q := 93) rfl rfl rfl ?_
            refine wq_icmp_ge (tgt := 104) (q := 96) rfl rfl rfl (fun c93 => ?_) (fun c93 => ?_)
            · skip
              refine wq_iinc (i := 6) (n := 1) (q := 107) rfl rfl rfl (Nat.le_of_ble_eq_true rfl) rfl (by first | omega | (simp [hup]; omega)) (by first | omega | (simp [hup]; omega)) ?_
              refine wq_goto (tgt := 28) rfl rfl ?_
              refine ih _ (by omega) (s + 1) _ _ h3 _ _ _ rfl (by omega) (by omega) hM3 e1'' f4 ?_
              rcases hF with ⟨z1, z2, z3⟩ | ⟨z1, z2, z4, z3⟩
              · first
                | (refine Or.inl ⟨z1, z2, fun x x0 x1 => ?_⟩
                   by_cases e : x = s
                   · subst e; omega
                   · exact z3 x x0 (by omega))
                | (refine Or.inr ⟨by omega, by omega, by omega, fun x x0 x1 => ?_⟩
                   by_cases e : x = s
                   · subst e; omega
                   · have := z3 x x0 (by omega); omega)
              · first
                | (refine Or.inr ⟨by omega, z2, z4, fun x x0 x1 => ?_⟩
                   by_cases e : x = s
                   · subst e; omega
                   · exact z3 x x0 (by omega))
                | (refine Or.inr ⟨by omega, by omega, by omega, fun x x0 x1 => ?_⟩
                   by_cases e : x = s
                   · subst e; omega
                   · have := z3 x x0 (by omega); omega)
            · skip
              refine wq_iload (i := 9) (q := 98) rfl rfl rfl ?_
              refine wq_istore (i := 5) (q := 100) rfl rfl (Nat.le_of_ble_eq_true rfl) rfl ?_
              refine wq_iload (i := 6) (q := 102) rfl rfl rfl ?_
              refine wq_istore (i := 4) (q := 104) rfl rfl (Nat.le_of_ble_eq_true rfl) rfl ?_
              refine wq_iinc (i := 6) (n := 1) (q := 107) rfl rfl rfl (Nat.le_of_ble_eq_true rfl) rfl (by first | omega | (simp [hup]; omega)) (by first | omega | (simp [hup]; omega)) ?_
              refine wq_goto (tgt := 28) rfl rfl ?_
              refine ih _ (by omega) (s + 1) _ _ h3 _ _ _ rfl (by omega) (by omega) hM3 e1'' f4 ?_
              rcases hF with ⟨z1, z2, z3⟩ | ⟨z1, z2, z4, z3⟩
              · first
                | (refine Or.inl ⟨z1, z2, fun x x0 x1 => ?_⟩
                   by_cases e : x = s
                   · subst e; omega
                   · exact z3 x x0 (by omega))
                | (refine Or.inr ⟨by omega, by omega, by omega, fun x x0 x1 => ?_⟩
                   by_cases e : x = s
                   · subst e; omega
                   · have := z3 x x0 (by omega); omega)
              · first
                | (refine Or.inr ⟨by omega, z2, z4, fun x x0 x1 => ?_⟩
                   by_cases e : x = s
                   · subst e; omega
                   · exact z3 x x0 (by omega))
                | (refine Or.inr ⟨by omega, by omega, by omega, fun x x0 x1 => ?_⟩
                   by_cases e : x = s
                   · subst e; omega
                   · have := z3 x x0 (by omega); omega)
set_option maxRecDepth 100000 in
set_option maxHeartbeats 1000000 in
theorem Mo_meets_ok (a b t : Int) (N : mN) (h : mH) (r : mR) (hI : mI h N) : Meets true (rm 8) m_Mo_meets [vR 64, vI a, vI b, vI t] h r (rqQ h r (Ans (kP (nS N) a b (bI (isT t))) (fun v tr => tr = 0 ∧ Me (sn N a t) (sn N b t) (nS N) v))) := by
  have hS := hI.1.1.2.1
  refine ⟨ok_Mo_meets, Nat.le_of_ble_eq_true rfl, ?_⟩
  refine wq_aload_n (kk := 0) (q := 1) rfl rfl rfl ?_
  refine wq_aload_n (kk := 0) (q := 2) rfl rfl rfl ?_
  refine wq_iload_n (kk := 1) (q := 3) rfl rfl rfl ?_
  refine wq_iload_n (kk := 2) (q := 4) rfl rfl rfl ?_
  refine wq_iload_n (kk := 3) (q := 5) rfl rfl rfl ?_
  refine wq_callV (q := 8) (m' := m_Mo_wayWhy) (R' := rm 3) (As := [_, _, _]) rfl rfl l_Mo_307 vm_Mo_wayWhy rfl rfl rfl (Or.inl ⟨rfl, Nat.le_of_ble_eq_true rfl⟩) (Nat.le_of_ble_eq_true rfl) (Nat.le_of_ble_eq_true rfl) (Nat.le_refl _) (Nat.le_refl _) (Nat.le_of_ble_eq_true rfl) (Mo_wayWhy_ok a b t N h r hI) rfl ?_
  rintro rv h r ⟨rfl, rfl, rfl⟩ -
  generalize hk : kP (nS N) a b (bI (isT t)) = k
  refine wq_callV (q := 11) (m' := m_Mo_isRefused) (R' := rm 1) (As := [_]) rfl rfl l_Mo_228 vm_Mo_isRefused rfl rfl rfl (Or.inl ⟨rfl, Nat.le_of_ble_eq_true rfl⟩) (Nat.le_of_ble_eq_true rfl) (Nat.le_of_ble_eq_true rfl) (Nat.le_refl _) (Nat.le_refl _) (Nat.le_of_ble_eq_true rfl) (Mo_isRefused_ok k h r) rfl ?_
  rintro rv h1 r ⟨rfl, rfl, rfl⟩ -
  have f1 := x_ref_f (S := qF) (C := qK) (h := h) (k := k) (by decide) (by decide) (by decide) (by decide)
  have I1 := mI_f hI f1 (by decide) (by decide)
  refine wq_cif_eq (tgt := 16) (q := 14) rfl rfl rfl (fun c11 => ?_) (fun c11 => ?_)
  · skip
    have k0 : k = 0 := by simpa using c11
    subst k0
    have hab := kP_0 hk
    have ht := bI_ne hab.2
    refine wq_bipush (n := -2) (q := 18) rfl rfl rfl ?_
    refine wq_istore (i := 4) (q := 20) rfl rfl (Nat.le_of_ble_eq_true rfl) rfl ?_
    refine wq_sipush (n := 9999) (q := 23) rfl rfl rfl ?_
    refine wq_istore (i := 5) (q := 25) rfl rfl (Nat.le_of_ble_eq_true rfl) rfl ?_
    refine wq_iconst (n := 0) (q := 26) rfl rfl rfl ?_
    refine wq_istore (i := 6) (q := 28) rfl rfl (Nat.le_of_ble_eq_true rfl) rfl ?_
    exact Mo_meetL N a b t h r ht _ (fun v hv => Or.inr ⟨rfl, rfl, hv⟩) _ 0 _ _ _ none none none rfl (by omega) (by omega) I1.1 x_ref_1 f1 (Or.inl ⟨rfl, rfl, fun s s0 s1 => by omega⟩)
  · skip
    refine wq_iconst (n := -1) (q := 15) rfl rfl rfl ?_
    exact wq_iret rfl rfl (Nat.le_refl _) (Nat.le_refl _) ⟨_, rfl, rfl, Or.inl ⟨c11, rfl, hup_s⟩, by rw [x_ref_1]; have := kP_b (n := nS N) (a := a) (b := b) (g := bI (isT t)); omega, f1⟩
theorem kP_in2 {n a b t k m : Int} : (if kP n a b (bI (isT t)) = 0 ∧ ¬ (0 ≤ k ∧ k ≤ m) then 2 else kP n a b (bI (isT t))) = kP n a b (bI (isT t ∧ 0 ≤ k ∧ k ≤ m)) := by
  unfold kP
  by_cases h1 : (0 ≤ a ∧ a < n) ∧ 0 ≤ b ∧ b < n
  · rw [if_pos h1, if_pos h1]
    by_cases h2 : isT t
    · rw [bI_t h2]
      by_cases h3 : 0 ≤ k ∧ k ≤ m
      · rw [bI_t ⟨h2, h3⟩]; simp [h3]
      · rw [bI_f (fun z => h3 z.2)]; simp [h3]
    · rw [bI_f h2, bI_f (fun z => h2 z.1)]; simp
  · rw [if_neg h1, if_neg h1]; simp
set_option maxRecDepth 100000 in
set_option maxHeartbeats 1000000 in
theorem Mo_roundA (a b t y k1 x5 : Int) (N : mN) (h : mH) (r : mR) (hI : mI h N) (hk : kP (nS N) a b (bI (isT t ∧ 0 ≤ y ∧ y ≤ 999)) = k1) : WP (true, rm 8) m_Mo_round (rt m_Mo_round (rm 8) (rqQ h r (Ans (kP (nS N) a b (bI (isT t ∧ 0 ≤ y ∧ y ≤ 999))) (fun v tr => tr = 0 ∧ Ro N a b t y v)))) 33 [some (vR 64), some (vI a), some (vI b), some (vI t), some (vI y), some (vI x5), none] [vI k1, vR 64] h r (0, 0) := by
  refine wq_callV (q := 36) (m' := m_Mo_isRefused) (R' := rm 1) (As := [_]) rfl rfl l_Mo_228 vm_Mo_isRefused rfl rfl rfl (Or.inl ⟨rfl, Nat.le_of_ble_eq_true rfl⟩) (Nat.le_of_ble_eq_true rfl) (Nat.le_of_ble_eq_true rfl) (Nat.le_refl _) (Nat.le_refl _) (Nat.le_of_ble_eq_true rfl) (Mo_isRefused_ok k1 h r) rfl ?_
  rintro rv h1 r ⟨rfl, rfl, rfl⟩ -
  have f1 := x_ref_f (S := qF) (C := qK) (h := h) (k := k1) (by decide) (by decide) (by decide) (by decide)
  have I1 := mI_f hI f1 (by decide) (by decide)
  refine wq_cif_eq (tgt := 41) (q := 39) rfl rfl rfl (fun c36 => ?_) (fun c36 => ?_)
  · skip
    have k0 : k1 = 0 := by simpa using c36
    subst k0
    have hab := kP_0 hk
    have ht := bI_ne hab.2
    have hbb := bb_bd hI.1.1 (a := a) (b := b) (t := t) (by omega)
    refine wq_aload_n (kk := 0) (q := 42) rfl rfl rfl ?_
    refine wq_iload_n (kk := 1) (q := 43) rfl rfl rfl ?_
    refine wq_iload_n (kk := 2) (q := 44) rfl rfl rfl ?_
    refine wq_iload_n (kk := 3) (q := 45) rfl rfl rfl ?_
    refine wq_callV (q := 48) (m' := m_Mo_best) (R' := rm 7) (As := [_, _, _]) rfl rfl l_Mo_311 vm_Mo_best rfl rfl rfl (Or.inl ⟨rfl, Nat.le_of_ble_eq_true rfl⟩) (Nat.le_of_ble_eq_true rfl) (Nat.le_of_ble_eq_true rfl) (Nat.le_refl _) (Nat.le_refl _) (Nat.le_of_ble_eq_true rfl) (Mo_best_ok N a b t _ r I1.1 hab.1.2 (by omega)) rfl ?_
    rintro rv h2 r ⟨rfl, f2, rfl, -⟩ -
    have hM2 := isM_f I1.1 f2.1 (by decide)
    have e1 : h2 64 1 = 0 := by rw [f2.2 1 (by decide)]; exact x_ref_1
    have f3 := f1.tr (lgq f2) (fun _ y => y) (fun _ y => y)
    refine wq_istore (i := 6) (q := 50) rfl rfl (Nat.le_of_ble_eq_true rfl) rfl ?_
    refine wq_iload (i := 6) (q := 52) rfl rfl rfl ?_
    refine wq_bipush (n := -2) (q := 54) rfl rfl rfl ?_
    refine wq_icmp_ne (tgt := 62) (q := 57) rfl rfl rfl (fun c54 => ?_) (fun c54 => ?_)
    · skip
      refine wq_aload_n (kk := 0) (q := 63) rfl rfl rfl ?_
      refine wq_iload_n (kk := 2) (q := 64) rfl rfl rfl ?_
      refine wq_iload_n (kk := 1) (q := 65) rfl rfl rfl ?_
      refine wq_iload (i := 6) (q := 67) rfl rfl rfl ?_
      refine wq_iload (i := 4) (q := 69) rfl rfl rfl ?_
      refine wq_iadd (q := 70) rfl rfl (by first | omega | (simp [hup]; omega)) (by first | omega | (simp [hup]; omega)) ?_
      refine wq_callV (q := 73) (m' := m_Mo_best) (R' := rm 7) (As := [_, _, _]) rfl rfl l_Mo_311 vm_Mo_best rfl rfl rfl (Or.inl ⟨rfl, Nat.le_of_ble_eq_true rfl⟩) (Nat.le_of_ble_eq_true rfl) (Nat.le_of_ble_eq_true rfl) (Nat.le_refl _) (Nat.le_refl _) (Nat.le_of_ble_eq_true rfl) (Mo_best_ok N b a _ h2 r hM2 hab.1.1 (by omega)) rfl ?_
      rintro rv h3 r ⟨rfl, g2, rfl, -⟩ -
      have e1' : h3 64 1 = 0 := by rw [g2.2 1 (by decide)]; exact e1
      have f4 := f3.tr (lgq g2) (fun _ y => y) (fun _ y => y)
      refine wq_iret rfl rfl (Nat.le_refl _) (Nat.le_refl _) ⟨_, rfl, rfl, Or.inr ⟨hk, e1', ?_⟩, by omega, f4⟩
      unfold Ro
      rw [if_neg (by omega), show bb N a t b = sn N a t b by omega]
    · skip
      refine wq_bipush (n := -2) (q := 59) rfl rfl rfl ?_
      refine wq_goto (tgt := 73) rfl rfl ?_
      refine wq_iret rfl rfl (Nat.le_refl _) (Nat.le_refl _) ⟨_, rfl, rfl, Or.inr ⟨hk, e1, ?_⟩, by omega, f3⟩
      exact (if_pos (by omega)).symm
  · skip
    refine wq_iconst (n := -1) (q := 40) rfl rfl rfl ?_
    exact wq_iret rfl rfl (Nat.le_refl _) (Nat.le_refl _) ⟨_, rfl, rfl, Or.inl ⟨by omega, rfl, by rw [x_ref_1, hk]⟩, by rw [x_ref_1]; have := kP_b (n := nS N) (a := a) (b := b) (g := bI (isT t ∧ 0 ≤ y ∧ y ≤ 999)); omega, f1⟩
set_option maxRecDepth 100000 in
set_option maxHeartbeats 1000000 in
theorem Mo_round_ok (a b t y : Int) (N : mN) (h : mH) (r : mR) (hI : mI h N) : Meets true (rm 8) m_Mo_round [vR 64, vI a, vI b, vI t, vI y] h r (rqQ h r (Ans (kP (nS N) a b (bI (isT t ∧ 0 ≤ y ∧ y ≤ 999))) (fun v tr => tr = 0 ∧ Ro N a b t y v))) := by
  refine ⟨ok_Mo_round, Nat.le_of_ble_eq_true rfl, ?_⟩
  refine wq_aload_n (kk := 0) (q := 1) rfl rfl rfl ?_
  refine wq_iload_n (kk := 1) (q := 2) rfl rfl rfl ?_
  refine wq_iload_n (kk := 2) (q := 3) rfl rfl rfl ?_
  refine wq_iload_n (kk := 3) (q := 4) rfl rfl rfl ?_
  refine wq_callV (q := 7) (m' := m_Mo_wayWhy) (R' := rm 3) (As := [_, _, _]) rfl rfl l_Mo_307 vm_Mo_wayWhy rfl rfl rfl (Or.inl ⟨rfl, Nat.le_of_ble_eq_true rfl⟩) (Nat.le_of_ble_eq_true rfl) (Nat.le_of_ble_eq_true rfl) (Nat.le_refl _) (Nat.le_refl _) (Nat.le_of_ble_eq_true rfl) (Mo_wayWhy_ok a b t N h r hI) rfl ?_
  rintro rv h r ⟨rfl, rfl, rfl⟩ -
  refine wq_istore (i := 5) (q := 9) rfl rfl (Nat.le_of_ble_eq_true rfl) rfl ?_
  refine wq_aload_n (kk := 0) (q := 10) rfl rfl rfl ?_
  refine wq_iload (i := 5) (q := 12) rfl rfl rfl ?_
  refine wq_if_ne (tgt := 31) (q := 15) rfl rfl rfl (fun c12 => ?_) (fun c12 => ?_)
  · skip
    refine wq_iload (i := 5) (q := 33) rfl rfl rfl ?_
    refine Mo_roundA a b t y _ _ N h r hI ?_
    rw [← kP_in2]
    first
    | exact if_pos ⟨by omega, c24⟩
    | exact if_neg (fun z => c12 z.1)
    | exact if_neg (fun z => z.2 c24)
  · skip
    refine wq_iload (i := 4) (q := 17) rfl rfl rfl ?_
    refine wq_iconst (n := 0) (q := 18) rfl rfl rfl ?_
    refine wq_sipush (n := 999) (q := 21) rfl rfl rfl ?_
    refine wq_callS (q := 24) (m' := m_Mo_in) (R' := rm 1) (As := [_, _, _]) rfl rfl l_Mo_107 sm_Mo_in rfl (Nat.le_of_ble_eq_true rfl) (Nat.le_of_ble_eq_true rfl) (Nat.le_refl _) (Nat.le_refl _) (Nat.le_of_ble_eq_true rfl) (Mo_in_ok _ _ _ h r) rfl ?_
    rintro rv h r ⟨rfl, rfl, rfl⟩ -
    refine wq_cif_ne (tgt := 31) (q := 27) rfl rfl rfl (fun c24 => ?_) (fun c24 => ?_)
    · skip
      refine wq_iload (i := 5) (q := 33) rfl rfl rfl ?_
      refine Mo_roundA a b t y _ _ N h r hI ?_
      rw [← kP_in2]
      first
      | exact if_pos ⟨by omega, c24⟩
      | exact if_neg (fun z => c12 z.1)
      | exact if_neg (fun z => z.2 c24)
    · skip
      refine wq_iconst (n := 2) (q := 28) rfl rfl rfl ?_
      refine wq_goto (tgt := 33) rfl rfl ?_
      refine Mo_roundA a b t y _ _ N h r hI ?_
      rw [← kP_in2]
      first
      | exact if_pos ⟨by omega, c24⟩
      | exact if_neg (fun z => c12 z.1)
      | exact if_neg (fun z => z.2 c24)

/-! LinkTimesModel: steps -/
def Dm (N : mN) (e t : mF) (o d : Int) : Prop := (lv N d ≤ lv N o ∧ e o ≤ e d ∧ ¬ (lv N o = lv N d ∧ e o = e d)) ∨ ((lv N o = lv N d ∧ e o = e d) ∧ (t o < t d ∨ t o = t d ∧ o < d))
def Bs (N : mN) (a : Int) (e t : mF) (d : Int) : Prop := Pa N 9999 e a d ∧ ∀ o, Pa N 9999 e a o → o ≠ d → ¬ Dm N e t o d
/-- o is no worse than d -/
def Cv (N : mN) (e t : mF) (o d : Int) : Prop := lv N d ≤ lv N o ∧ e o ≤ e d ∧ (lv N o = lv N d → e o = e d → t o ≤ t d)
theorem Bs.cover {N : mN} (hV : NV N) {a : Int} {e t : mF} (hb : ∀ d, Pa N 9999 e a d → (0 ≤ e d ∧ e d ≤ 1700) ∧ 0 ≤ t d ∧ t d ≤ 120) : ∀ (m : Nat) (d : Int), Pa N 9999 e a d → ((1500 - lv N d + e d) * 100000 + t d * 200 + d).toNat = m → ∃ o, Bs N a e t o ∧ Cv N e t o d := by
  intro m
  induction m using Nat.strongRecOn with
  | ind m ih =>
    intro d hd hm
    have bd := hb d hd
    have vd := hV.2.2.1 d hd.1
    have hd0 := hd.1.1
    have hd1 := hd.1.2
    have hn := hV.1
    by_cases hB : Bs N a e t d
    · exact ⟨d, hB, Int.le_refl _, Int.le_refl _, fun _ _ => Int.le_refl _⟩
    · have : ∃ o, Pa N 9999 e a o ∧ o ≠ d ∧ Dm N e t o d := by
        apply Classical.byContradiction
        intro z
        exact hB ⟨hd, fun o h1 h2 h3 => z ⟨o, h1, h2, h3⟩⟩
      obtain ⟨o, o1, o2, o3⟩ := this
      have bo := hb o o1
      have vo := hV.2.2.1 o o1.1
      have ho0 := o1.1.1
      have ho1 := o1.1.2
      unfold Dm at o3
      obtain ⟨x, x1, x2, x3, x4⟩ := ih _ (by omega) o o1 rfl
      refine ⟨x, x1, by omega, by omega, fun y1 y2 => ?_⟩
      have := x4 (by omega) (by omega)
      omega
theorem Bs.lt {N : mN} {a : Int} {e t : mF} {d g : Int} (hd : Bs N a e t d) (hg : Bs N a e t g) (hne : d ≠ g) (hl : lv N d ≤ lv N g) : lv N d < lv N g ∧ e d < e g := by
  have h1 := hd.2 g hg.1 (fun z => hne z.symm)
  have h2 := hg.2 d hd.1 hne
  unfold Dm at h1 h2
  omega
set_option maxRecDepth 100000 in
set_option maxHeartbeats 1000000 in
theorem Mo_beginsStepL (N : mN) (a d : Int) (h : mH) (r : mR) (hM : isM h N) (hp : Pa N 9999 (h 73) a d) : ∀ (M : Nat) (o : Int) (x4 x5 : Option mV), (nN N - o).toNat = M → 0 ≤ o → o ≤ nN N → (∀ g, g < o → Pa N 9999 (h 73) a g → g ≠ d → ¬ Dm N (h 73) (h 74) g d) → (match x4 with | some (.inr (.inl _)) => false | _ => true) = true → WP (true, rm 3) m_Mo_beginsStep (rt m_Mo_beginsStep (rm 3) (pI (bI (Bs N a (h 73) (h 74) d)) h r)) 38 [some (vR 64), some (vI a), some (vI d), some (vI o), x4, x5] [] h r (0, 0) := by
  intro M
  induction M using Nat.strongRecOn with
  | ind M ih =>
    intro o x4 x5 hN o0 o1 hF p4
    have hV := hM.1
    have hn := hV.1
    have e4 := hM.2.1
    have hd := hp.1
    have hd0 := hp.1.1
    have hd1 := hp.1.2
    have hdp : o < nN N → dp N o := fun z => ⟨o0, z⟩
    have hfr : o < nN N → h 66 (25 + 8 * o + 1) = frm N o := fun z => (hM.2.2.2.1 o ⟨o0, z⟩).2.2.1
    refine wq_iload_n (kk := 3) (q := 39) rfl rfl rfl ?_
    refine wq_aload_n (kk := 0) (q := 40) rfl rfl rfl ?_
    refine wq_getF (q := 43) f_Mo_17 rfl rfl (Nat.le_of_ble_eq_true rfl) rfl rfl rfl ?_
    refine wq_iconst (n := 4) (q := 44) rfl rfl rfl ?_
    refine wq_iald (q := 45) rfl (Or.inl ⟨rfl, Nat.le_of_ble_eq_true rfl⟩) rfl rfl (by first | omega | (simp [hup]; omega)) (by first | omega | (simp [hup]; omega)) ?_
    refine wq_icmp_ge (tgt := 218) (q := 48) rfl rfl rfl (fun c45 => ?_) (fun c45 => ?_)
    · skip
      refine wq_iconst (n := 1) (q := 219) rfl rfl rfl ?_
      exact wq_zret rfl rfl (Nat.le_refl _) (Nat.le_refl _) (by omega) (pC_t ⟨hp, fun g g1 g2 => hF g (by have := g1.1.2; omega) g1 g2⟩)
    · skip
      refine wq_iload_n (kk := 3) (q := 49) rfl rfl rfl ?_
      refine wq_iload_n (kk := 2) (q := 50) rfl rfl rfl ?_
      refine wq_icmp_eq (tgt := 212) (q := 53) rfl rfl rfl (fun c50 => ?_) (fun c50 => ?_)
      · skip
        refine wq_iinc (i := 3) (n := 1) (q := 215) rfl rfl rfl (Nat.le_of_ble_eq_true rfl) rfl (by first | omega | (simp [hup]; omega)) (by first | omega | (simp [hup]; omega)) ?_
        refine wq_goto (tgt := 38) rfl rfl ?_
        refine ih _ (by omega) (o + 1) _ _ rfl (by omega) (by omega) (fun g g0 g1 g2 g3 => ?_) (by first | rfl | exact p4)
        by_cases e : g = o
        · subst e
          have y1 := g1.2.1
          have y2 := g1.2.2.1
          have y3 := g1.2.2.2
          first
          | exact absurd c50 g2
          | exact absurd y1 c58
          | (unfold Dm at g3; omega)
        · exact hF g (by omega) g1 g2 g3
      · skip
        refine wq_aload_n (kk := 0) (q := 54) rfl rfl rfl ?_
        refine wq_iload_n (kk := 3) (q := 55) rfl rfl rfl ?_
        refine wq_callV (q := 58) (m' := m_Mo_runs) (R' := rm 2) (As := [_]) rfl rfl l_Mo_253 vm_Mo_runs rfl rfl rfl (Or.inl ⟨rfl, Nat.le_of_ble_eq_true rfl⟩) (Nat.le_of_ble_eq_true rfl) (Nat.le_of_ble_eq_true rfl) (Nat.le_refl _) (Nat.le_refl _) (Nat.le_of_ble_eq_true rfl) (Mo_runs_ok N o h r hM (hdp (by omega))) rfl ?_
        rintro rv h r ⟨rfl, rfl, rfl⟩ -
        refine wq_cif_eq (tgt := 212) (q := 61) rfl rfl rfl (fun c58 => ?_) (fun c58 => ?_)
        · skip
          refine wq_iinc (i := 3) (n := 1) (q := 215) rfl rfl rfl (Nat.le_of_ble_eq_true rfl) rfl (by first | omega | (simp [hup]; omega)) (by first | omega | (simp [hup]; omega)) ?_
          refine wq_goto (tgt := 38) rfl rfl ?_
          refine ih _ (by omega) (o + 1) _ _ rfl (by omega) (by omega) (fun g g0 g1 g2 g3 => ?_) (by first | rfl | exact p4)
          by_cases e : g = o
          · subst e
            have y1 := g1.2.1
            have y2 := g1.2.2.1
            have y3 := g1.2.2.2
            first
            | exact absurd c50 g2
            | exact absurd y1 c58
            | (unfold Dm at g3; omega)
          · exact hF g (by omega) g1 g2 g3
        · skip
          refine wq_aload_n (kk := 0) (q := 62) rfl rfl rfl ?_
          refine wq_getF (q := 65) f_Mo_17 rfl rfl (Nat.le_of_ble_eq_true rfl) rfl rfl rfl ?_
          refine wq_iload_n (kk := 3) (q := 66) rfl rfl rfl ?_
          refine wq_iconst (n := 1) (q := 67) rfl rfl rfl ?_
          refine wq_callS (q := 70) (m' := m_Mo_at) (R' := rm 1) (As := [_, _]) rfl rfl l_Mo_209 sm_Mo_at rfl (Nat.le_of_ble_eq_true rfl) (Nat.le_of_ble_eq_true rfl) (Nat.le_refl _) (Nat.le_refl _) (Nat.le_of_ble_eq_true rfl) (Mo_at_ok o 1 h r (by omega) (by omega)) rfl ?_
          rintro rv h r ⟨rfl, rfl, rfl⟩ -
          have hfo := hfr (by omega)
          refine wq_iald (q := 71) rfl (Or.inl ⟨rfl, Nat.le_of_ble_eq_true rfl⟩) rfl rfl (by first | omega | (simp [hup]; omega)) (by first | omega | (simp [hup]; omega)) ?_
          refine wq_iload_n (kk := 1) (q := 72) rfl rfl rfl ?_
          refine wq_icmp_ne (tgt := 212) (q := 75) rfl rfl rfl (fun c72 => ?_) (fun c72 => ?_)
          · skip
            refine wq_iinc (i := 3) (n := 1) (q := 215) rfl rfl rfl (Nat.le_of_ble_eq_true rfl) rfl (by first | omega | (simp [hup]; omega)) (by first | omega | (simp [hup]; omega)) ?_
            refine wq_goto (tgt := 38) rfl rfl ?_
            refine ih _ (by omega) (o + 1) _ _ rfl (by omega) (by omega) (fun g g0 g1 g2 g3 => ?_) (by first | rfl | exact p4)
            by_cases e : g = o
            · subst e
              have y1 := g1.2.1
              have y2 := g1.2.2.1
              have y3 := g1.2.2.2
              first
              | exact absurd c50 g2
              | exact absurd y1 c58
              | (unfold Dm at g3; omega)
            · exact hF g (by omega) g1 g2 g3
          · skip
            refine wq_aload_n (kk := 0) (q := 76) rfl rfl rfl ?_
            refine wq_getF (q := 79) f_Mo_39 rfl rfl (Nat.le_of_ble_eq_true rfl) rfl rfl rfl ?_
            refine wq_iload_n (kk := 3) (q := 80) rfl rfl rfl ?_
            refine wq_iald (q := 81) rfl (Or.inl ⟨rfl, Nat.le_of_ble_eq_true rfl⟩) rfl rfl (by first | omega | (simp [hup]; omega)) (by first | omega | (simp [hup]; omega)) ?_
            refine wq_sipush (n := 9999) (q := 84) rfl rfl rfl ?_
            refine wq_icmp_ne (tgt := 90) (q := 87) rfl rfl rfl (fun c84 => ?_) (fun c84 => ?_)
            · skip
              refine wq_aload_n (kk := 0) (q := 91) rfl rfl rfl ?_
              refine wq_iload_n (kk := 3) (q := 92) rfl rfl rfl ?_
              refine wq_callV (q := 95) (m' := m_Mo_leavesAt) (R' := rm 2) (As := [_]) rfl rfl l_Mo_250 vm_Mo_leavesAt rfl rfl rfl (Or.inl ⟨rfl, Nat.le_of_ble_eq_true rfl⟩) (Nat.le_of_ble_eq_true rfl) (Nat.le_of_ble_eq_true rfl) (Nat.le_refl _) (Nat.le_refl _) (Nat.le_of_ble_eq_true rfl) (Mo_leavesAt_ok N o h r hM (hdp (by omega))) rfl ?_
              rintro rv h r ⟨rfl, rfl, rfl⟩ -
              refine wq_aload_n (kk := 0) (q := 96) rfl rfl rfl ?_
              refine wq_iload_n (kk := 2) (q := 97) rfl rfl rfl ?_
              refine wq_callV (q := 100) (m' := m_Mo_leavesAt) (R' := rm 2) (As := [_]) rfl rfl l_Mo_250 vm_Mo_leavesAt rfl rfl rfl (Or.inl ⟨rfl, Nat.le_of_ble_eq_true rfl⟩) (Nat.le_of_ble_eq_true rfl) (Nat.le_of_ble_eq_true rfl) (Nat.le_refl _) (Nat.le_refl _) (Nat.le_of_ble_eq_true rfl) (Mo_leavesAt_ok N d h r hM hd) rfl ?_
              rintro rv h r ⟨rfl, rfl, rfl⟩ -
              refine wq_icmp_lt (tgt := 122) (q := 103) rfl rfl rfl (fun c100 => ?_) (fun c100 => ?_)
              · skip
                refine wq_iconst (n := 0) (q := 123) rfl rfl rfl ?_
                refine wq_istore (i := 4) (q := 125) rfl rfl (Nat.le_of_ble_eq_true rfl) rfl ?_
                refine wq_aload_n (kk := 0) (q := 126) rfl rfl rfl ?_
                refine wq_iload_n (kk := 3) (q := 127) rfl rfl rfl ?_
                refine wq_callV (q := 130) (m' := m_Mo_leavesAt) (R' := rm 2) (As := [_]) rfl rfl l_Mo_250 vm_Mo_leavesAt rfl rfl rfl (Or.inl ⟨rfl, Nat.le_of_ble_eq_true rfl⟩) (Nat.le_of_ble_eq_true rfl) (Nat.le_of_ble_eq_true rfl) (Nat.le_refl _) (Nat.le_refl _) (Nat.le_of_ble_eq_true rfl) (Mo_leavesAt_ok N o h r hM (hdp (by omega))) rfl ?_
                rintro rv h r ⟨rfl, rfl, rfl⟩ -
                refine wq_aload_n (kk := 0) (q := 131) rfl rfl rfl ?_
                refine wq_iload_n (kk := 2) (q := 132) rfl rfl rfl ?_
                refine wq_callV (q := 135) (m' := m_Mo_leavesAt) (R' := rm 2) (As := [_]) rfl rfl l_Mo_250 vm_Mo_leavesAt rfl rfl rfl (Or.inl ⟨rfl, Nat.le_of_ble_eq_true rfl⟩) (Nat.le_of_ble_eq_true rfl) (Nat.le_of_ble_eq_true rfl) (Nat.le_refl _) (Nat.le_refl _) (Nat.le_of_ble_eq_true rfl) (Mo_leavesAt_ok N d h r hM hd) rfl ?_
                rintro rv h r ⟨rfl, rfl, rfl⟩ -
                refine wq_icmp_ne (tgt := 157) (q := 138) rfl rfl rfl (fun c135 => ?_) (fun c135 => ?_)
                · skip
                  refine wq_iconst (n := 0) (q := 158) rfl rfl rfl ?_
                  refine wq_istore (i := 5) (q := 160) rfl rfl (Nat.le_of_ble_eq_true rfl) rfl ?_
                  refine wq_iload (i := 4) (q := 162) rfl rfl rfl ?_
                  refine wq_if_eq (tgt := 170) (q := 165) rfl rfl rfl (fun c162 => ?_) (fun c162 => ?_)
                  · skip
                    refine wq_iload (i := 5) (q := 172) rfl rfl rfl ?_
                    refine wq_if_eq (tgt := 212) (q := 175) rfl rfl rfl (fun c172 => ?_) (fun c172 => ?_)
                    · skip
                      refine wq_iinc (i := 3) (n := 1) (q := 215) rfl rfl rfl (Nat.le_of_ble_eq_true rfl) rfl (by first | omega | (simp [hup]; omega)) (by first | omega | (simp [hup]; omega)) ?_
                      refine wq_goto (tgt := 38) rfl rfl ?_
                      refine ih _ (by omega) (o + 1) _ _ rfl (by omega) (by omega) (fun g g0 g1 g2 g3 => ?_) (by first | rfl | exact p4)
                      by_cases e : g = o
                      · subst e
                        have y1 := g1.2.1
                        have y2 := g1.2.2.1
                        have y3 := g1.2.2.2
                        first
                        | exact absurd c50 g2
                        | exact absurd y1 c58
                        | (unfold Dm at g3; omega)
                      · exact hF g (by omega) g1 g2 g3
                    · skip
                      refine wq_aload_n (kk := 0) (q := 176) rfl rfl rfl ?_
                      refine wq_getF (q := 179) f_Mo_42 rfl rfl (Nat.le_of_ble_eq_true rfl) rfl rfl rfl ?_
                      refine wq_iload_n (kk := 3) (q := 180) rfl rfl rfl ?_
                      refine wq_iald (q := 181) rfl (Or.inl ⟨rfl, Nat.le_of_ble_eq_true rfl⟩) rfl rfl (by first | omega | (simp [hup]; omega)) (by first | omega | (simp [hup]; omega)) ?_
                      refine wq_aload_n (kk := 0) (q := 182) rfl rfl rfl ?_
                      refine wq_getF (q := 185) f_Mo_42 rfl rfl (Nat.le_of_ble_eq_true rfl) rfl rfl rfl ?_
                      refine wq_iload_n (kk := 2) (q := 186) rfl rfl rfl ?_
                      refine wq_iald (q := 187) rfl (Or.inl ⟨rfl, Nat.le_of_ble_eq_true rfl⟩) rfl rfl (by first | omega | (simp [hup]; omega)) (by first | omega | (simp [hup]; omega)) ?_
                      refine wq_icmp_lt (tgt := 210) (q := 190) rfl rfl rfl (fun c187 => ?_) (fun c187 => ?_)
                      · skip
                        refine wq_iconst (n := 0) (q := 211) rfl rfl rfl ?_
                        refine wq_zret rfl rfl (Nat.le_refl _) (Nat.le_refl _) (by omega) (pC_f (fun z => ?_))
                        refine z.2 o ⟨hdp (by omega), c58, by omega, c84⟩ c50 ?_
                        unfold Dm
                        omega
                      · skip
                        refine wq_aload_n (kk := 0) (q := 191) rfl rfl rfl ?_
                        refine wq_getF (q := 194) f_Mo_42 rfl rfl (Nat.le_of_ble_eq_true rfl) rfl rfl rfl ?_
                        refine wq_iload_n (kk := 3) (q := 195) rfl rfl rfl ?_
                        refine wq_iald (q := 196) rfl (Or.inl ⟨rfl, Nat.le_of_ble_eq_true rfl⟩) rfl rfl (by first | omega | (simp [hup]; omega)) (by first | omega | (simp [hup]; omega)) ?_
                        refine wq_aload_n (kk := 0) (q := 197) rfl rfl rfl ?_
                        refine wq_getF (q := 200) f_Mo_42 rfl rfl (Nat.le_of_ble_eq_true rfl) rfl rfl rfl ?_
                        refine wq_iload_n (kk := 2) (q := 201) rfl rfl rfl ?_
                        refine wq_iald (q := 202) rfl (Or.inl ⟨rfl, Nat.le_of_ble_eq_true rfl⟩) rfl rfl (by first | omega | (simp [hup]; omega)) (by first | omega | (simp [hup]; omega)) ?_
                        refine wq_icmp_ne (tgt := 212) (q := 205) rfl rfl rfl (fun c202 => ?_) (fun c202 => ?_)
                        · skip
                          refine wq_iinc (i := 3) (n := 1) (q := 215) rfl rfl rfl (Nat.le_of_ble_eq_true rfl) rfl (by first | omega | (simp [hup]; omega)) (by first | omega | (simp [hup]; omega)) ?_
                          refine wq_goto (tgt := 38) rfl rfl ?_
                          refine ih _ (by omega) (o + 1) _ _ rfl (by omega) (by omega) (fun g g0 g1 g2 g3 => ?_) (by first | rfl | exact p4)
                          by_cases e : g = o
                          · subst e
                            have y1 := g1.2.1
                            have y2 := g1.2.2.1
                            have y3 := g1.2.2.2
                            first
                            | exact absurd c50 g2
                            | exact absurd y1 c58
                            | (unfold Dm at g3; omega)
                          · exact hF g (by omega) g1 g2 g3
                        · skip
                          refine wq_iload_n (kk := 3) (q := 206) rfl rfl rfl ?_
                          refine wq_iload_n (kk := 2) (q := 207) rfl rfl rfl ?_
                          refine wq_icmp_ge (tgt := 212) (q := 210) rfl rfl rfl (fun c207 => ?_) (fun c207 => ?_)
                          · skip
                            refine wq_iinc (i := 3) (n := 1) (q := 215) rfl rfl rfl (Nat.le_of_ble_eq_true rfl) rfl (by first | omega | (simp [hup]; omega)) (by first | omega | (simp [hup]; omega)) ?_
                            refine wq_goto (tgt := 38) rfl rfl ?_
                            refine ih _ (by omega) (o + 1) _ _ rfl (by omega) (by omega) (fun g g0 g1 g2 g3 => ?_) (by first | rfl | exact p4)
                            by_cases e : g = o
                            · subst e
                              have y1 := g1.2.1
                              have y2 := g1.2.2.1
                              have y3 := g1.2.2.2
                              first
                              | exact absurd c50 g2
                              | exact absurd y1 c58
                              | (unfold Dm at g3; omega)
                            · exact hF g (by omega) g1 g2 g3
                          · skip
                            refine wq_iconst (n := 0) (q := 211) rfl rfl rfl ?_
                            refine wq_zret rfl rfl (Nat.le_refl _) (Nat.le_refl _) (by omega) (pC_f (fun z => ?_))
                            refine z.2 o ⟨hdp (by omega), c58, by omega, c84⟩ c50 ?_
                            unfold Dm
                            omega
                  · skip
                    refine wq_iload (i := 5) (q := 167) rfl rfl rfl ?_
                    refine wq_if_eq (tgt := 210) (q := 170) rfl rfl rfl (fun c167 => ?_) (fun c167 => ?_)
                    · skip
                      refine wq_iconst (n := 0) (q := 211) rfl rfl rfl ?_
                      refine wq_zret rfl rfl (Nat.le_refl _) (Nat.le_refl _) (by omega) (pC_f (fun z => ?_))
                      refine z.2 o ⟨hdp (by omega), c58, by omega, c84⟩ c50 ?_
                      unfold Dm
                      omega
                    · skip
                      refine wq_iload (i := 5) (q := 172) rfl rfl rfl ?_
                      refine wq_if_eq (tgt := 212) (q := 175) rfl rfl rfl (fun c172 => ?_) (fun c172 => ?_)
                      · skip
                        refine wq_iinc (i := 3) (n := 1) (q := 215) rfl rfl rfl (Nat.le_of_ble_eq_true rfl) rfl (by first | omega | (simp [hup]; omega)) (by first | omega | (simp [hup]; omega)) ?_
                        refine wq_goto (tgt := 38) rfl rfl ?_
                        refine ih _ (by omega) (o + 1) _ _ rfl (by omega) (by omega) (fun g g0 g1 g2 g3 => ?_) (by first | rfl | exact p4)
                        by_cases e : g = o
                        · subst e
                          have y1 := g1.2.1
                          have y2 := g1.2.2.1
                          have y3 := g1.2.2.2
                          first
                          | exact absurd c50 g2
                          | exact absurd y1 c58
                          | (unfold Dm at g3; omega)
                        · exact hF g (by omega) g1 g2 g3
                      · skip
                        refine wq_aload_n (kk := 0) (q := 176) rfl rfl rfl ?_
                        refine wq_getF (q := 179) f_Mo_42 rfl rfl (Nat.le_of_ble_eq_true rfl) rfl rfl rfl ?_
                        refine wq_iload_n (kk := 3) (q := 180) rfl rfl rfl ?_
                        refine wq_iald (q := 181) rfl (Or.inl ⟨rfl, Nat.le_of_ble_eq_true rfl⟩) rfl rfl (by first | omega | (simp [hup]; omega)) (by first | omega | (simp [hup]; omega)) ?_
                        refine wq_aload_n (kk := 0) (q := 182) rfl rfl rfl ?_
                        refine wq_getF (q := 185) f_Mo_42 rfl rfl (Nat.le_of_ble_eq_true rfl) rfl rfl rfl ?_
                        refine wq_iload_n (kk := 2) (q := 186) rfl rfl rfl ?_
                        refine wq_iald (q := 187) rfl (Or.inl ⟨rfl, Nat.le_of_ble_eq_true rfl⟩) rfl rfl (by first | omega | (simp [hup]; omega)) (by first | omega | (simp [hup]; omega)) ?_
                        refine wq_icmp_lt (tgt := 210) (q := 190) rfl rfl rfl (fun c187 => ?_) (fun c187 => ?_)
                        · skip
                          refine wq_iconst (n := 0) (q := 211) rfl rfl rfl ?_
                          refine wq_zret rfl rfl (Nat.le_refl _) (Nat.le_refl _) (by omega) (pC_f (fun z => ?_))
                          refine z.2 o ⟨hdp (by omega), c58, by omega, c84⟩ c50 ?_
                          unfold Dm
                          omega
                        · skip
                          refine wq_aload_n (kk := 0) (q := 191) rfl rfl rfl ?_
                          refine wq_getF (q := 194) f_Mo_42 rfl rfl (Nat.le_of_ble_eq_true rfl) rfl rfl rfl ?_
                          refine wq_iload_n (kk := 3) (q := 195) rfl rfl rfl ?_
                          refine wq_iald (q := 196) rfl (Or.inl ⟨rfl, Nat.le_of_ble_eq_true rfl⟩) rfl rfl (by first | omega | (simp [hup]; omega)) (by first | omega | (simp [hup]; omega)) ?_
                          refine wq_aload_n (kk := 0) (q := 197) rfl rfl rfl ?_
                          refine wq_getF (q := 200) f_Mo_42 rfl rfl (Nat.le_of_ble_eq_true rfl) rfl rfl rfl ?_
                          refine wq_iload_n (kk := 2) (q := 201) rfl rfl rfl ?_
                          refine wq_iald (q := 202) rfl (Or.inl ⟨rfl, Nat.le_of_ble_eq_true rfl⟩) rfl rfl (by first | omega | (simp [hup]; omega)) (by first | omega | (simp [hup]; omega)) ?_
                          refine wq_icmp_ne (tgt := 212) (q := 205) rfl rfl rfl (fun c202 => ?_) (fun c202 => ?_)
                          · skip
                            refine wq_iinc (i := 3) (n := 1) (q := 215) rfl rfl rfl (Nat.le_of_ble_eq_true rfl) rfl (by first | omega | (simp [hup]; omega)) (by first | omega | (simp [hup]; omega)) ?_
                            refine wq_goto (tgt := 38) rfl rfl ?_
                            refine ih _ (by omega) (o + 1) _ _ rfl (by omega) (by omega) (fun g g0 g1 g2 g3 => ?_) (by first | rfl | exact p4)
                            by_cases e : g = o
                            · subst e
                              have y1 := g1.2.1
                              have y2 := g1.2.2.1
                              have y3 := g1.2.2.2
                              first
                              | exact absurd c50 g2
                              | exact absurd y1 c58
                              | (unfold Dm at g3; omega)
                            · exact hF g (by omega) g1 g2 g3
                          · skip
                            refine wq_iload_n (kk := 3) (q := 206) rfl rfl rfl ?_
                            refine wq_iload_n (kk := 2) (q := 207) rfl rfl rfl ?_
                            refine wq_icmp_ge (tgt := 212) (q := 210) rfl rfl rfl (fun c207 => ?_) (fun c207 => ?_)
                            · skip
                              refine wq_iinc (i := 3) (n := 1) (q := 215) rfl rfl rfl (Nat.le_of_ble_eq_true rfl) rfl (by first | omega | (simp [hup]; omega)) (by first | omega | (simp [hup]; omega)) ?_
                              refine wq_goto (tgt := 38) rfl rfl ?_
                              refine ih _ (by omega) (o + 1) _ _ rfl (by omega) (by omega) (fun g g0 g1 g2 g3 => ?_) (by first | rfl | exact p4)
                              by_cases e : g = o
                              · subst e
                                have y1 := g1.2.1
                                have y2 := g1.2.2.1
                                have y3 := g1.2.2.2
                                first
                                | exact absurd c50 g2
                                | exact absurd y1 c58
                                | (unfold Dm at g3; omega)
                              · exact hF g (by omega) g1 g2 g3
                            · skip
                              refine wq_iconst (n := 0) (q := 211) rfl rfl rfl ?_
                              refine wq_zret rfl rfl (Nat.le_refl _) (Nat.le_refl _) (by omega) (pC_f (fun z => ?_))
                              refine z.2 o ⟨hdp (by omega), c58, by omega, c84⟩ c50 ?_
                              unfold Dm
                              omega
                · skip
                  refine wq_aload_n (kk := 0) (q := 139) rfl rfl rfl ?_
                  refine wq_getF (q := 142) f_Mo_39 rfl rfl (Nat.le_of_ble_eq_true rfl) rfl rfl rfl ?_
                  refine wq_iload_n (kk := 3) (q := 143) rfl rfl rfl ?_
                  refine wq_iald (q := 144) rfl (Or.inl ⟨rfl, Nat.le_of_ble_eq_true rfl⟩) rfl rfl (by first | omega | (simp [hup]; omega)) (by first | omega | (simp [hup]; omega)) ?_
                  refine wq_aload_n (kk := 0) (q := 145) rfl rfl rfl ?_
                  refine wq_getF (q := 148) f_Mo_39 rfl rfl (Nat.le_of_ble_eq_true rfl) rfl rfl rfl ?_
                  refine wq_iload_n (kk := 2) (q := 149) rfl rfl rfl ?_
                  refine wq_iald (q := 150) rfl (Or.inl ⟨rfl, Nat.le_of_ble_eq_true rfl⟩) rfl rfl (by first | omega | (simp [hup]; omega)) (by first | omega | (simp [hup]; omega)) ?_
                  refine wq_icmp_ne (tgt := 157) (q := 153) rfl rfl rfl (fun c150 => ?_) (fun c150 => ?_)
                  · skip
                    refine wq_iconst (n := 0) (q := 158) rfl rfl rfl ?_
                    refine wq_istore (i := 5) (q := 160) rfl rfl (Nat.le_of_ble_eq_true rfl) rfl ?_
                    refine wq_iload (i := 4) (q := 162) rfl rfl rfl ?_
                    refine wq_if_eq (tgt := 170) (q := 165) rfl rfl rfl (fun c162 => ?_) (fun c162 => ?_)
                    · skip
                      refine wq_iload (i := 5) (q := 172) rfl rfl rfl ?_
                      refine wq_if_eq (tgt := 212) (q := 175) rfl rfl rfl (fun c172 => ?_) (fun c172 => ?_)
                      · skip
                        refine wq_iinc (i := 3) (n := 1) (q := 215) rfl rfl rfl (Nat.le_of_ble_eq_true rfl) rfl (by first | omega | (simp [hup]; omega)) (by first | omega | (simp [hup]; omega)) ?_
                        refine wq_goto (tgt := 38) rfl rfl ?_
                        refine ih _ (by omega) (o + 1) _ _ rfl (by omega) (by omega) (fun g g0 g1 g2 g3 => ?_) (by first | rfl | exact p4)
                        by_cases e : g = o
                        · subst e
                          have y1 := g1.2.1
                          have y2 := g1.2.2.1
                          have y3 := g1.2.2.2
                          first
                          | exact absurd c50 g2
                          | exact absurd y1 c58
                          | (unfold Dm at g3; omega)
                        · exact hF g (by omega) g1 g2 g3
                      · skip
                        refine wq_aload_n (kk := 0) (q := 176) rfl rfl rfl ?_
                        refine wq_getF (q := 179) f_Mo_42 rfl rfl (Nat.le_of_ble_eq_true rfl) rfl rfl rfl ?_
                        refine wq_iload_n (kk := 3) (q := 180) rfl rfl rfl ?_
                        refine wq_iald (q := 181) rfl (Or.inl ⟨rfl, Nat.le_of_ble_eq_true rfl⟩) rfl rfl (by first | omega | (simp [hup]; omega)) (by first | omega | (simp [hup]; omega)) ?_
                        refine wq_aload_n (kk := 0) (q := 182) rfl rfl rfl ?_
                        refine wq_getF (q := 185) f_Mo_42 rfl rfl (Nat.le_of_ble_eq_true rfl) rfl rfl rfl ?_
                        refine wq_iload_n (kk := 2) (q := 186) rfl rfl rfl ?_
                        refine wq_iald (q := 187) rfl (Or.inl ⟨rfl, Nat.le_of_ble_eq_true rfl⟩) rfl rfl (by first | omega | (simp [hup]; omega)) (by first | omega | (simp [hup]; omega)) ?_
                        refine wq_icmp_lt (tgt := 210) (q := 190) rfl rfl rfl (fun c187 => ?_) (fun c187 => ?_)
                        · skip
                          refine wq_iconst (n := 0) (q := 211) rfl rfl rfl ?_
                          refine wq_zret rfl rfl (Nat.le_refl _) (Nat.le_refl _) (by omega) (pC_f (fun z => ?_))
                          refine z.2 o ⟨hdp (by omega), c58, by omega, c84⟩ c50 ?_
                          unfold Dm
                          omega
                        · skip
                          refine wq_aload_n (kk := 0) (q := 191) rfl rfl rfl ?_
                          refine wq_getF (q := 194) f_Mo_42 rfl rfl (Nat.le_of_ble_eq_true rfl) rfl rfl rfl ?_
                          refine wq_iload_n (kk := 3) (q := 195) rfl rfl rfl ?_
                          refine wq_iald (q := 196) rfl (Or.inl ⟨rfl, Nat.le_of_ble_eq_true rfl⟩) rfl rfl (by first | omega | (simp [hup]; omega)) (by first | omega | (simp [hup]; omega)) ?_
                          refine wq_aload_n (kk := 0) (q := 197) rfl rfl rfl ?_
                          refine wq_getF (q := 200) f_Mo_42 rfl rfl (Nat.le_of_ble_eq_true rfl) rfl rfl rfl ?_
                          refine wq_iload_n (kk := 2) (q := 201) rfl rfl rfl ?_
                          refine wq_iald (q := 202) rfl (Or.inl ⟨rfl, Nat.le_of_ble_eq_true rfl⟩) rfl rfl (by first | omega | (simp [hup]; omega)) (by first | omega | (simp [hup]; omega)) ?_
                          refine wq_icmp_ne (tgt := 212) (q := 205) rfl rfl rfl (fun c202 => ?_) (fun c202 => ?_)
                          · skip
                            refine wq_iinc (i := 3) (n := 1) (q := 215) rfl rfl rfl (Nat.le_of_ble_eq_true rfl) rfl (by first | omega | (simp [hup]; omega)) (by first | omega | (simp [hup]; omega)) ?_
                            refine wq_goto (tgt := 38) rfl rfl ?_
                            refine ih _ (by omega) (o + 1) _ _ rfl (by omega) (by omega) (fun g g0 g1 g2 g3 => ?_) (by first | rfl | exact p4)
                            by_cases e : g = o
                            · subst e
                              have y1 := g1.2.1
                              have y2 := g1.2.2.1
                              have y3 := g1.2.2.2
                              first
                              | exact absurd c50 g2
                              | exact absurd y1 c58
                              | (unfold Dm at g3; omega)
                            · exact hF g (by omega) g1 g2 g3
                          · skip
                            refine wq_iload_n (kk := 3) (q := 206) rfl rfl rfl ?_
                            refine wq_iload_n (kk := 2) (q := 207) rfl rfl rfl ?_
                            refine wq_icmp_ge (tgt := 212) (q := 210) rfl rfl rfl (fun c207 => ?_) (fun c207 => ?_)
                            · skip
                              refine wq_iinc (i := 3) (n := 1) (q := 215) rfl rfl rfl (Nat.le_of_ble_eq_true rfl) rfl (by first | omega | (simp [hup]; omega)) (by first | omega | (simp [hup]; omega)) ?_
                              refine wq_goto (tgt := 38) rfl rfl ?_
                              refine ih _ (by omega) (o + 1) _ _ rfl (by omega) (by omega) (fun g g0 g1 g2 g3 => ?_) (by first | rfl | exact p4)
                              by_cases e : g = o
                              · subst e
                                have y1 := g1.2.1
                                have y2 := g1.2.2.1
                                have y3 := g1.2.2.2
                                first
                                | exact absurd c50 g2
                                | exact absurd y1 c58
                                | (unfold Dm at g3; omega)
                              · exact hF g (by omega) g1 g2 g3
                            · skip
                              refine wq_iconst (n := 0) (q := 211) rfl rfl rfl ?_
                              refine wq_zret rfl rfl (Nat.le_refl _) (Nat.le_refl _) (by omega) (pC_f (fun z => ?_))
                              refine z.2 o ⟨hdp (by omega), c58, by omega, c84⟩ c50 ?_
                              unfold Dm
                              omega
                    · skip
                      refine wq_iload (i := 5) (q := 167) rfl rfl rfl ?_
                      refine wq_if_eq (tgt := 210) (q := 170) rfl rfl rfl (fun c167 => ?_) (fun c167 => ?_)
                      · skip
                        refine wq_iconst (n := 0) (q := 211) rfl rfl rfl ?_
                        refine wq_zret rfl rfl (Nat.le_refl _) (Nat.le_refl _) (by omega) (pC_f (fun z => ?_))
                        refine z.2 o ⟨hdp (by omega), c58, by omega, c84⟩ c50 ?_
                        unfold Dm
                        omega
                      · skip
                        refine wq_iload (i := 5) (q := 172) rfl rfl rfl ?_
                        refine wq_if_eq (tgt := 212) (q := 175) rfl rfl rfl (fun c172 => ?_) (fun c172 => ?_)
                        · skip
                          refine wq_iinc (i := 3) (n := 1) (q := 215) rfl rfl rfl (Nat.le_of_ble_eq_true rfl) rfl (by first | omega | (simp [hup]; omega)) (by first | omega | (simp [hup]; omega)) ?_
                          refine wq_goto (tgt := 38) rfl rfl ?_
                          refine ih _ (by omega) (o + 1) _ _ rfl (by omega) (by omega) (fun g g0 g1 g2 g3 => ?_) (by first | rfl | exact p4)
                          by_cases e : g = o
                          · subst e
                            have y1 := g1.2.1
                            have y2 := g1.2.2.1
                            have y3 := g1.2.2.2
                            first
                            | exact absurd c50 g2
                            | exact absurd y1 c58
                            | (unfold Dm at g3; omega)
                          · exact hF g (by omega) g1 g2 g3
                        · skip
                          refine wq_aload_n (kk := 0) (q := 176) rfl rfl rfl ?_
                          refine wq_getF (q := 179) f_Mo_42 rfl rfl (Nat.le_of_ble_eq_true rfl) rfl rfl rfl ?_
                          refine wq_iload_n (kk := 3) (q := 180) rfl rfl rfl ?_
                          refine wq_iald (q := 181) rfl (Or.inl ⟨rfl, Nat.le_of_ble_eq_true rfl⟩) rfl rfl (by first | omega | (simp [hup]; omega)) (by first | omega | (simp [hup]; omega)) ?_
                          refine wq_aload_n (kk := 0) (q := 182) rfl rfl rfl ?_
                          refine wq_getF (q := 185) f_Mo_42 rfl rfl (Nat.le_of_ble_eq_true rfl) rfl rfl rfl ?_
                          refine wq_iload_n (kk := 2) (q := 186) rfl rfl rfl ?_
                          refine wq_iald (q := 187) rfl (Or.inl ⟨rfl, Nat.le_of_ble_eq_true rfl⟩) rfl rfl (by first | omega | (simp [hup]; omega)) (by first | omega | (simp [hup]; omega)) ?_
                          refine wq_icmp_lt (tgt := 210) (q := 190) rfl rfl rfl (fun c187 => ?_) (fun c187 => ?_)
                          · skip
                            refine wq_iconst (n := 0) (q := 211) rfl rfl rfl ?_
                            refine wq_zret rfl rfl (Nat.le_refl _) (Nat.le_refl _) (by omega) (pC_f (fun z => ?_))
                            refine z.2 o ⟨hdp (by omega), c58, by omega, c84⟩ c50 ?_
                            unfold Dm
                            omega
                          · skip
                            refine wq_aload_n (kk := 0) (q := 191) rfl rfl rfl ?_
                            refine wq_getF (q := 194) f_Mo_42 rfl rfl (Nat.le_of_ble_eq_true rfl) rfl rfl rfl ?_
                            refine wq_iload_n (kk := 3) (q := 195) rfl rfl rfl ?_
                            refine wq_iald (q := 196) rfl (Or.inl ⟨rfl, Nat.le_of_ble_eq_true rfl⟩) rfl rfl (by first | omega | (simp [hup]; omega)) (by first | omega | (simp [hup]; omega)) ?_
                            refine wq_aload_n (kk := 0) (q := 197) rfl rfl rfl ?_
                            refine wq_getF (q := 200) f_Mo_42 rfl rfl (Nat.le_of_ble_eq_true rfl) rfl rfl rfl ?_
                            refine wq_iload_n (kk := 2) (q := 201) rfl rfl rfl ?_
                            refine wq_iald (q := 202) rfl (Or.inl ⟨rfl, Nat.le_of_ble_eq_true rfl⟩) rfl rfl (by first | omega | (simp [hup]; omega)) (by first | omega | (simp [hup]; omega)) ?_
                            refine wq_icmp_ne (tgt := 212) (q := 205) rfl rfl rfl (fun c202 => ?_) (fun c202 => ?_)
                            · skip
                              refine wq_iinc (i := 3) (n := 1) (q := 215) rfl rfl rfl (Nat.le_of_ble_eq_true rfl) rfl (by first | omega | (simp [hup]; omega)) (by first | omega | (simp [hup]; omega)) ?_
                              refine wq_goto (tgt := 38) rfl rfl ?_
                              refine ih _ (by omega) (o + 1) _ _ rfl (by omega) (by omega) (fun g g0 g1 g2 g3 => ?_) (by first | rfl | exact p4)
                              by_cases e : g = o
                              · subst e
                                have y1 := g1.2.1
                                have y2 := g1.2.2.1
                                have y3 := g1.2.2.2
                                first
                                | exact absurd c50 g2
                                | exact absurd y1 c58
                                | (unfold Dm at g3; omega)
                              · exact hF g (by omega) g1 g2 g3
                            · skip
                              refine wq_iload_n (kk := 3) (q := 206) rfl rfl rfl ?_
                              refine wq_iload_n (kk := 2) (q := 207) rfl rfl rfl ?_
                              refine wq_icmp_ge (tgt := 212) (q := 210) rfl rfl rfl (fun c207 => ?_) (fun c207 => ?_)
                              · skip
                                refine wq_iinc (i := 3) (n := 1) (q := 215) rfl rfl rfl (Nat.le_of_ble_eq_true rfl) rfl (by first | omega | (simp [hup]; omega)) (by first | omega | (simp [hup]; omega)) ?_
                                refine wq_goto (tgt := 38) rfl rfl ?_
                                refine ih _ (by omega) (o + 1) _ _ rfl (by omega) (by omega) (fun g g0 g1 g2 g3 => ?_) (by first | rfl | exact p4)
                                by_cases e : g = o
                                · subst e
                                  have y1 := g1.2.1
                                  have y2 := g1.2.2.1
                                  have y3 := g1.2.2.2
                                  first
                                  | exact absurd c50 g2
                                  | exact absurd y1 c58
                                  | (unfold Dm at g3; omega)
                                · exact hF g (by omega) g1 g2 g3
                              · skip
                                refine wq_iconst (n := 0) (q := 211) rfl rfl rfl ?_
                                refine wq_zret rfl rfl (Nat.le_refl _) (Nat.le_refl _) (by omega) (pC_f (fun z => ?_))
                                refine z.2 o ⟨hdp (by omega), c58, by omega, c84⟩ c50 ?_
                                unfold Dm
                                omega
                  · skip
                    refine wq_iconst (n := 1) (q := 154) rfl rfl rfl ?_
                    refine wq_goto (tgt := 158) rfl rfl ?_
                    refine wq_istore (i := 5) (q := 160) rfl rfl (Nat.le_of_ble_eq_true rfl) rfl ?_
                    refine wq_iload (i := 4) (q := 162) rfl rfl rfl ?_
                    refine wq_if_eq (tgt := 170) (q := 165) rfl rfl rfl (fun c162 => ?_) (fun c162 => ?_)
                    · skip
                      refine wq_iload (i := 5) (q := 172) rfl rfl rfl ?_
                      refine wq_if_eq (tgt := 212) (q := 175) rfl rfl rfl (fun c172 => ?_) (fun c172 => ?_)
                      · skip
                        refine wq_iinc (i := 3) (n := 1) (q := 215) rfl rfl rfl (Nat.le_of_ble_eq_true rfl) rfl (by first | omega | (simp [hup]; omega)) (by first | omega | (simp [hup]; omega)) ?_
                        refine wq_goto (tgt := 38) rfl rfl ?_
                        refine ih _ (by omega) (o + 1) _ _ rfl (by omega) (by omega) (fun g g0 g1 g2 g3 => ?_) (by first | rfl | exact p4)
                        by_cases e : g = o
                        · subst e
                          have y1 := g1.2.1
                          have y2 := g1.2.2.1
                          have y3 := g1.2.2.2
                          first
                          | exact absurd c50 g2
                          | exact absurd y1 c58
                          | (unfold Dm at g3; omega)
                        · exact hF g (by omega) g1 g2 g3
                      · skip
                        refine wq_aload_n (kk := 0) (q := 176) rfl rfl rfl ?_
                        refine wq_getF (q := 179) f_Mo_42 rfl rfl (Nat.le_of_ble_eq_true rfl) rfl rfl rfl ?_
                        refine wq_iload_n (kk := 3) (q := 180) rfl rfl rfl ?_
                        refine wq_iald (q := 181) rfl (Or.inl ⟨rfl, Nat.le_of_ble_eq_true rfl⟩) rfl rfl (by first | omega | (simp [hup]; omega)) (by first | omega | (simp [hup]; omega)) ?_
                        refine wq_aload_n (kk := 0) (q := 182) rfl rfl rfl ?_
                        refine wq_getF (q := 185) f_Mo_42 rfl rfl (Nat.le_of_ble_eq_true rfl) rfl rfl rfl ?_
                        refine wq_iload_n (kk := 2) (q := 186) rfl rfl rfl ?_
                        refine wq_iald (q := 187) rfl (Or.inl ⟨rfl, Nat.le_of_ble_eq_true rfl⟩) rfl rfl (by first | omega | (simp [hup]; omega)) (by first | omega | (simp [hup]; omega)) ?_
                        refine wq_icmp_lt (tgt := 210) (q := 190) rfl rfl rfl (fun c187 => ?_) (fun c187 => ?_)
                        · skip
                          refine wq_iconst (n := 0) (q := 211) rfl rfl rfl ?_
                          refine wq_zret rfl rfl (Nat.le_refl _) (Nat.le_refl _) (by omega) (pC_f (fun z => ?_))
                          refine z.2 o ⟨hdp (by omega), c58, by omega, c84⟩ c50 ?_
                          unfold Dm
                          omega
                        · skip
                          refine wq_aload_n (kk := 0) (q := 191) rfl rfl rfl ?_
                          refine wq_getF (q := 194) f_Mo_42 rfl rfl (Nat.le_of_ble_eq_true rfl) rfl rfl rfl ?_
                          refine wq_iload_n (kk := 3) (q := 195) rfl rfl rfl ?_
                          refine wq_iald (q := 196) rfl (Or.inl ⟨rfl, Nat.le_of_ble_eq_true rfl⟩) rfl rfl (by first | omega | (simp [hup]; omega)) (by first | omega | (simp [hup]; omega)) ?_
                          refine wq_aload_n (kk := 0) (q := 197) rfl rfl rfl ?_
                          refine wq_getF (q := 200) f_Mo_42 rfl rfl (Nat.le_of_ble_eq_true rfl) rfl rfl rfl ?_
                          refine wq_iload_n (kk := 2) (q := 201) rfl rfl rfl ?_
                          refine wq_iald (q := 202) rfl (Or.inl ⟨rfl, Nat.le_of_ble_eq_true rfl⟩) rfl rfl (by first | omega | (simp [hup]; omega)) (by first | omega | (simp [hup]; omega)) ?_
                          refine wq_icmp_ne (tgt := 212) (q := 205) rfl rfl rfl (fun c202 => ?_) (fun c202 => ?_)
                          · skip
                            refine wq_iinc (i := 3) (n := 1) (q := 215) rfl rfl rfl (Nat.le_of_ble_eq_true rfl) rfl (by first | omega | (simp [hup]; omega)) (by first | omega | (simp [hup]; omega)) ?_
                            refine wq_goto (tgt := 38) rfl rfl ?_
                            refine ih _ (by omega) (o + 1) _ _ rfl (by omega) (by omega) (fun g g0 g1 g2 g3 => ?_) (by first | rfl | exact p4)
                            by_cases e : g = o
                            · subst e
                              have y1 := g1.2.1
                              have y2 := g1.2.2.1
                              have y3 := g1.2.2.2
                              first
                              | exact absurd c50 g2
                              | exact absurd y1 c58
                              | (unfold Dm at g3; omega)
                            · exact hF g (by omega) g1 g2 g3
                          · skip
                            refine wq_iload_n (kk := 3) (q := 206) rfl rfl rfl ?_
                            refine wq_iload_n (kk := 2) (q := 207) rfl rfl rfl ?_
                            refine wq_icmp_ge (tgt := 212) (q := 210) rfl rfl rfl (fun c207 => ?_) (fun c207 => ?_)
                            · skip
                              refine wq_iinc (i := 3) (n := 1) (q := 215) rfl rfl rfl (Nat.le_of_ble_eq_true rfl) rfl (by first | omega | (simp [hup]; omega)) (by first | omega | (simp [hup]; omega)) ?_
                              refine wq_goto (tgt := 38) rfl rfl ?_
                              refine ih _ (by omega) (o + 1) _ _ rfl (by omega) (by omega) (fun g g0 g1 g2 g3 => ?_) (by first | rfl | exact p4)
                              by_cases e : g = o
                              · subst e
                                have y1 := g1.2.1
                                have y2 := g1.2.2.1
                                have y3 := g1.2.2.2
                                first
                                | exact absurd c50 g2
                                | exact absurd y1 c58
                                | (unfold Dm at g3; omega)
                              · exact hF g (by omega) g1 g2 g3
                            · skip
                              refine wq_iconst (n := 0) (q := 211) rfl rfl rfl ?_
                              refine wq_zret rfl rfl (Nat.le_refl _) (Nat.le_refl _) (by omega) (pC_f (fun z => ?_))
                              refine z.2 o ⟨hdp (by omega), c58, by omega, c84⟩ c50 ?_
                              unfold Dm
                              omega
                    · skip
                      refine wq_iload (i := 5) (q := 167) rfl rfl rfl ?_
                      refine wq_if_eq (tgt := 210) (q := 170) rfl rfl rfl (fun c167 => ?_) (fun c167 => ?_)
                      · skip
                        refine wq_iconst (n := 0) (q := 211) rfl rfl rfl ?_
                        refine wq_zret rfl rfl (Nat.le_refl _) (Nat.le_refl _) (by omega) (pC_f (fun z => ?_))
                        refine z.2 o ⟨hdp (by omega), c58, by omega, c84⟩ c50 ?_
                        unfold Dm
                        omega
                      · skip
                        refine wq_iload (i := 5) (q := 172) rfl rfl rfl ?_
                        refine wq_if_eq (tgt := 212) (q := 175) rfl rfl rfl (fun c172 => ?_) (fun c172 => ?_)
                        · skip
                          refine wq_iinc (i := 3) (n := 1) (q := 215) rfl rfl rfl (Nat.le_of_ble_eq_true rfl) rfl (by first | omega | (simp [hup]; omega)) (by first | omega | (simp [hup]; omega)) ?_
                          refine wq_goto (tgt := 38) rfl rfl ?_
                          refine ih _ (by omega) (o + 1) _ _ rfl (by omega) (by omega) (fun g g0 g1 g2 g3 => ?_) (by first | rfl | exact p4)
                          by_cases e : g = o
                          · subst e
                            have y1 := g1.2.1
                            have y2 := g1.2.2.1
                            have y3 := g1.2.2.2
                            first
                            | exact absurd c50 g2
                            | exact absurd y1 c58
                            | (unfold Dm at g3; omega)
                          · exact hF g (by omega) g1 g2 g3
                        · skip
                          refine wq_aload_n (kk := 0) (q := 176) rfl rfl rfl ?_
                          refine wq_getF (q := 179) f_Mo_42 rfl rfl (Nat.le_of_ble_eq_true rfl) rfl rfl rfl ?_
                          refine wq_iload_n (kk := 3) (q := 180) rfl rfl rfl ?_
                          refine wq_iald (q := 181) rfl (Or.inl ⟨rfl, Nat.le_of_ble_eq_true rfl⟩) rfl rfl (by first | omega | (simp [hup]; omega)) (by first | omega | (simp [hup]; omega)) ?_
                          refine wq_aload_n (kk := 0) (q := 182) rfl rfl rfl ?_
                          refine wq_getF (q := 185) f_Mo_42 rfl rfl (Nat.le_of_ble_eq_true rfl) rfl rfl rfl ?_
                          refine wq_iload_n (kk := 2) (q := 186) rfl rfl rfl ?_
                          refine wq_iald (q := 187) rfl (Or.inl ⟨rfl, Nat.le_of_ble_eq_true rfl⟩) rfl rfl (by first | omega | (simp [hup]; omega)) (by first | omega | (simp [hup]; omega)) ?_
                          refine wq_icmp_lt (tgt := 210) (q := 190) rfl rfl rfl (fun c187 => ?_) (fun c187 => ?_)
                          · skip
                            refine wq_iconst (n := 0) (q := 211) rfl rfl rfl ?_
                            refine wq_zret rfl rfl (Nat.le_refl _) (Nat.le_refl _) (by omega) (pC_f (fun z => ?_))
                            refine z.2 o ⟨hdp (by omega), c58, by omega, c84⟩ c50 ?_
                            unfold Dm
                            omega
                          · skip
                            refine wq_aload_n (kk := 0) (q := 191) rfl rfl rfl ?_
                            refine wq_getF (q := 194) f_Mo_42 rfl rfl (Nat.le_of_ble_eq_true rfl) rfl rfl rfl ?_
                            refine wq_iload_n (kk := 3) (q := 195) rfl rfl rfl ?_
                            refine wq_iald (q := 196) rfl (Or.inl ⟨rfl, Nat.le_of_ble_eq_true rfl⟩) rfl rfl (by first | omega | (simp [hup]; omega)) (by first | omega | (simp [hup]; omega)) ?_
                            refine wq_aload_n (kk := 0) (q := 197) rfl rfl rfl ?_
                            refine wq_getF (q := 200) f_Mo_42 rfl rfl (Nat.le_of_ble_eq_true rfl) rfl rfl rfl ?_
                            refine wq_iload_n (kk := 2) (q := 201) rfl rfl rfl ?_
                            refine wq_iald (q := 202) rfl (Or.inl ⟨rfl, Nat.le_of_ble_eq_true rfl⟩) rfl rfl (by first | omega | (simp [hup]; omega)) (by first | omega | (simp [hup]; omega)) ?_
                            refine wq_icmp_ne (tgt := 212) (q := 205) rfl rfl rfl (fun c202 => ?_) (fun c202 => ?_)
                            · skip
                              refine wq_iinc (i := 3) (n := 1) (q := 215) rfl rfl rfl (Nat.le_of_ble_eq_true rfl) rfl (by first | omega | (simp [hup]; omega)) (by first | omega | (simp [hup]; omega)) ?_
                              refine wq_goto (tgt := 38) rfl rfl ?_
                              refine ih _ (by omega) (o + 1) _ _ rfl (by omega) (by omega) (fun g g0 g1 g2 g3 => ?_) (by first | rfl | exact p4)
                              by_cases e : g = o
                              · subst e
                                have y1 := g1.2.1
                                have y2 := g1.2.2.1
                                have y3 := g1.2.2.2
                                first
                                | exact absurd c50 g2
                                | exact absurd y1 c58
                                | (unfold Dm at g3; omega)
                              · exact hF g (by omega) g1 g2 g3
                            · skip
                              refine wq_iload_n (kk := 3) (q := 206) rfl rfl rfl ?_
                              refine wq_iload_n (kk := 2) (q := 207) rfl rfl rfl ?_
                              refine wq_icmp_ge (tgt := 212) (q := 210) rfl rfl rfl (fun c207 => ?_) (fun c207 => ?_)
                              · skip
                                refine wq_iinc (i := 3) (n := 1) (q := 215) rfl rfl rfl (Nat.le_of_ble_eq_true rfl) rfl (by first | omega | (simp [hup]; omega)) (by first | omega | (simp [hup]; omega)) ?_
                                refine wq_goto (tgt := 38) rfl rfl ?_
                                refine ih _ (by omega) (o + 1) _ _ rfl (by omega) (by omega) (fun g g0 g1 g2 g3 => ?_) (by first | rfl | exact p4)
                                by_cases e : g = o
                                · subst e
                                  have y1 := g1.2.1
                                  have y2 := g1.2.2.1
                                  have y3 := g1.2.2.2
                                  first
                                  | exact absurd c50 g2
                                  | exact absurd y1 c58
                                  | (unfold Dm at g3; omega)
                                · exact hF g (by omega) g1 g2 g3
                              · skip
                                refine wq_iconst (n := 0) (q := 211) rfl rfl rfl ?_
                                refine wq_zret rfl rfl (Nat.le_refl _) (Nat.le_refl _) (by omega) (pC_f (fun z => ?_))
                                refine z.2 o ⟨hdp (by omega), c58, by omega, c84⟩ c50 ?_
                                unfold Dm
                                omega
              · skip
                refine wq_aload_n (kk := 0) (q := 104) rfl rfl rfl ?_
                refine wq_getF (q := 107) f_Mo_39 rfl rfl (Nat.le_of_ble_eq_true rfl) rfl rfl rfl ?_
                refine wq_iload_n (kk := 3) (q := 108) rfl rfl rfl ?_
                refine wq_iald (q := 109) rfl (Or.inl ⟨rfl, Nat.le_of_ble_eq_true rfl⟩) rfl rfl (by first | omega | (simp [hup]; omega)) (by first | omega | (simp [hup]; omega)) ?_
                refine wq_aload_n (kk := 0) (q := 110) rfl rfl rfl ?_
                refine wq_getF (q := 113) f_Mo_39 rfl rfl (Nat.le_of_ble_eq_true rfl) rfl rfl rfl ?_
                refine wq_iload_n (kk := 2) (q := 114) rfl rfl rfl ?_
                refine wq_iald (q := 115) rfl (Or.inl ⟨rfl, Nat.le_of_ble_eq_true rfl⟩) rfl rfl (by first | omega | (simp [hup]; omega)) (by first | omega | (simp [hup]; omega)) ?_
                refine wq_icmp_gt (tgt := 122) (q := 118) rfl rfl rfl (fun c115 => ?_) (fun c115 => ?_)
                · skip
                  refine wq_iconst (n := 0) (q := 123) rfl rfl rfl ?_
                  refine wq_istore (i := 4) (q := 125) rfl rfl (Nat.le_of_ble_eq_true rfl) rfl ?_
                  refine wq_aload_n (kk := 0) (q := 126) rfl rfl rfl ?_
                  refine wq_iload_n (kk := 3) (q := 127) rfl rfl rfl ?_
                  refine wq_callV (q := 130) (m' := m_Mo_leavesAt) (R' := rm 2) (As := [_]) rfl rfl l_Mo_250 vm_Mo_leavesAt rfl rfl rfl (Or.inl ⟨rfl, Nat.le_of_ble_eq_true rfl⟩) (Nat.le_of_ble_eq_true rfl) (Nat.le_of_ble_eq_true rfl) (Nat.le_refl _) (Nat.le_refl _) (Nat.le_of_ble_eq_true rfl) (Mo_leavesAt_ok N o h r hM (hdp (by omega))) rfl ?_
                  rintro rv h r ⟨rfl, rfl, rfl⟩ -
                  refine wq_aload_n (kk := 0) (q := 131) rfl rfl rfl ?_
                  refine wq_iload_n (kk := 2) (q := 132) rfl rfl rfl ?_
                  refine wq_callV (q := 135) (m' := m_Mo_leavesAt) (R' := rm 2) (As := [_]) rfl rfl l_Mo_250 vm_Mo_leavesAt rfl rfl rfl (Or.inl ⟨rfl, Nat.le_of_ble_eq_true rfl⟩) (Nat.le_of_ble_eq_true rfl) (Nat.le_of_ble_eq_true rfl) (Nat.le_refl _) (Nat.le_refl _) (Nat.le_of_ble_eq_true rfl) (Mo_leavesAt_ok N d h r hM hd) rfl ?_
                  rintro rv h r ⟨rfl, rfl, rfl⟩ -
                  refine wq_icmp_ne (tgt := 157) (q := 138) rfl rfl rfl (fun c135 => ?_) (fun c135 => ?_)
                  · skip
                    refine wq_iconst (n := 0) (q := 158) rfl rfl rfl ?_
                    refine wq_istore (i := 5) (q := 160) rfl rfl (Nat.le_of_ble_eq_true rfl) rfl ?_
                    refine wq_iload (i := 4) (q := 162) rfl rfl rfl ?_
                    refine wq_if_eq (tgt := 170) (q := 165) rfl rfl rfl (fun c162 => ?_) (fun c162 => ?_)
                    · skip
                      refine wq_iload (i := 5) (q := 172) rfl rfl rfl ?_
                      refine wq_if_eq (tgt := 212) (q := 175) rfl rfl rfl (fun c172 => ?_) (fun c172 => ?_)
                      · skip
                        refine wq_iinc (i := 3) (n := 1) (q := 215) rfl rfl rfl (Nat.le_of_ble_eq_true rfl) rfl (by first | omega | (simp [hup]; omega)) (by first | omega | (simp [hup]; omega)) ?_
                        refine wq_goto (tgt := 38) rfl rfl ?_
                        refine ih _ (by omega) (o + 1) _ _ rfl (by omega) (by omega) (fun g g0 g1 g2 g3 => ?_) (by first | rfl | exact p4)
                        by_cases e : g = o
                        · subst e
                          have y1 := g1.2.1
                          have y2 := g1.2.2.1
                          have y3 := g1.2.2.2
                          first
                          | exact absurd c50 g2
                          | exact absurd y1 c58
                          | (unfold Dm at g3; omega)
                        · exact hF g (by omega) g1 g2 g3
                      · skip
                        refine wq_aload_n (kk := 0) (q := 176) rfl rfl rfl ?_
                        refine wq_getF (q := 179) f_Mo_42 rfl rfl (Nat.le_of_ble_eq_true rfl) rfl rfl rfl ?_
                        refine wq_iload_n (kk := 3) (q := 180) rfl rfl rfl ?_
                        refine wq_iald (q := 181) rfl (Or.inl ⟨rfl, Nat.le_of_ble_eq_true rfl⟩) rfl rfl (by first | omega | (simp [hup]; omega)) (by first | omega | (simp [hup]; omega)) ?_
                        refine wq_aload_n (kk := 0) (q := 182) rfl rfl rfl ?_
                        refine wq_getF (q := 185) f_Mo_42 rfl rfl (Nat.le_of_ble_eq_true rfl) rfl rfl rfl ?_
                        refine wq_iload_n (kk := 2) (q := 186) rfl rfl rfl ?_
                        refine wq_iald (q := 187) rfl (Or.inl ⟨rfl, Nat.le_of_ble_eq_true rfl⟩) rfl rfl (by first | omega | (simp [hup]; omega)) (by first | omega | (simp [hup]; omega)) ?_
                        refine wq_icmp_lt (tgt := 210) (q := 190) rfl rfl rfl (fun c187 => ?_) (fun c187 => ?_)
                        · skip
                          refine wq_iconst (n := 0) (q := 211) rfl rfl rfl ?_
                          refine wq_zret rfl rfl (Nat.le_refl _) (Nat.le_refl _) (by omega) (pC_f (fun z => ?_))
                          refine z.2 o ⟨hdp (by omega), c58, by omega, c84⟩ c50 ?_
                          unfold Dm
                          omega
                        · skip
                          refine wq_aload_n (kk := 0) (q := 191) rfl rfl rfl ?_
                          refine wq_getF (q := 194) f_Mo_42 rfl rfl (Nat.le_of_ble_eq_true rfl) rfl rfl rfl ?_
                          refine wq_iload_n (kk := 3) (q := 195) rfl rfl rfl ?_
                          refine wq_iald (q := 196) rfl (Or.inl ⟨rfl, Nat.le_of_ble_eq_true rfl⟩) rfl rfl (by first | omega | (simp [hup]; omega)) (by first | omega | (simp [hup]; omega)) ?_
                          refine wq_aload_n (kk := 0) (q := 197) rfl rfl rfl ?_
                          refine wq_getF (q := 200) f_Mo_42 rfl rfl (Nat.le_of_ble_eq_true rfl) rfl rfl rfl ?_
                          refine wq_iload_n (kk := 2) (q := 201) rfl rfl rfl ?_
                          refine wq_iald (q := 202) rfl (Or.inl ⟨rfl, Nat.le_of_ble_eq_true rfl⟩) rfl rfl (by first | omega | (simp [hup]; omega)) (by first | omega | (simp [hup]; omega)) ?_
                          refine wq_icmp_ne (tgt := 212) (q := 205) rfl rfl rfl (fun c202 => ?_) (fun c202 => ?_)
                          · skip
                            refine wq_iinc (i := 3) (n := 1) (q := 215) rfl rfl rfl (Nat.le_of_ble_eq_true rfl) rfl (by first | omega | (simp [hup]; omega)) (by first | omega | (simp [hup]; omega)) ?_
                            refine wq_goto (tgt := 38) rfl rfl ?_
                            refine ih _ (by omega) (o + 1) _ _ rfl (by omega) (by omega) (fun g g0 g1 g2 g3 => ?_) (by first | rfl | exact p4)
                            by_cases e : g = o
                            · subst e
                              have y1 := g1.2.1
                              have y2 := g1.2.2.1
                              have y3 := g1.2.2.2
                              first
                              | exact absurd c50 g2
                              | exact absurd y1 c58
                              | (unfold Dm at g3; omega)
                            · exact hF g (by omega) g1 g2 g3
                          · skip
                            refine wq_iload_n (kk := 3) (q := 206) rfl rfl rfl ?_
                            refine wq_iload_n (kk := 2) (q := 207) rfl rfl rfl ?_
                            refine wq_icmp_ge (tgt := 212) (q := 210) rfl rfl rfl (fun c207 => ?_) (fun c207 => ?_)
                            · skip
                              refine wq_iinc (i := 3) (n := 1) (q := 215) rfl rfl rfl (Nat.le_of_ble_eq_true rfl) rfl (by first | omega | (simp [hup]; omega)) (by first | omega | (simp [hup]; omega)) ?_
                              refine wq_goto (tgt := 38) rfl rfl ?_
                              refine ih _ (by omega) (o + 1) _ _ rfl (by omega) (by omega) (fun g g0 g1 g2 g3 => ?_) (by first | rfl | exact p4)
                              by_cases e : g = o
                              · subst e
                                have y1 := g1.2.1
                                have y2 := g1.2.2.1
                                have y3 := g1.2.2.2
                                first
                                | exact absurd c50 g2
                                | exact absurd y1 c58
                                | (unfold Dm at g3; omega)
                              · exact hF g (by omega) g1 g2 g3
                            · skip
                              refine wq_iconst (n := 0) (q := 211) rfl rfl rfl ?_
                              refine wq_zret rfl rfl (Nat.le_refl _) (Nat.le_refl _) (by omega) (pC_f (fun z => ?_))
                              refine z.2 o ⟨hdp (by omega), c58, by omega, c84⟩ c50 ?_
                              unfold Dm
                              omega
                    · skip
                      refine wq_iload (i := 5) (q := 167) rfl rfl rfl ?_
                      refine wq_if_eq (tgt := 210) (q := 170) rfl rfl rfl (fun c167 => ?_) (fun c167 => ?_)
                      · skip
                        refine wq_iconst (n := 0) (q := 211) rfl rfl rfl ?_
                        refine wq_zret rfl rfl (Nat.le_refl _) (Nat.le_refl _) (by omega) (pC_f (fun z => ?_))
                        refine z.2 o ⟨hdp (by omega), c58, by omega, c84⟩ c50 ?_
                        unfold Dm
                        omega
                      · skip
                        refine wq_iload (i := 5) (q := 172) rfl rfl rfl ?_
                        refine wq_if_eq (tgt := 212) (q := 175) rfl rfl rfl (fun c172 => ?_) (fun c172 => ?_)
                        · skip
                          refine wq_iinc (i := 3) (n := 1) (q := 215) rfl rfl rfl (Nat.le_of_ble_eq_true rfl) rfl (by first | omega | (simp [hup]; omega)) (by first | omega | (simp [hup]; omega)) ?_
                          refine wq_goto (tgt := 38) rfl rfl ?_
                          refine ih _ (by omega) (o + 1) _ _ rfl (by omega) (by omega) (fun g g0 g1 g2 g3 => ?_) (by first | rfl | exact p4)
                          by_cases e : g = o
                          · subst e
                            have y1 := g1.2.1
                            have y2 := g1.2.2.1
                            have y3 := g1.2.2.2
                            first
                            | exact absurd c50 g2
                            | exact absurd y1 c58
                            | (unfold Dm at g3; omega)
                          · exact hF g (by omega) g1 g2 g3
                        · skip
                          refine wq_aload_n (kk := 0) (q := 176) rfl rfl rfl ?_
                          refine wq_getF (q := 179) f_Mo_42 rfl rfl (Nat.le_of_ble_eq_true rfl) rfl rfl rfl ?_
                          refine wq_iload_n (kk := 3) (q := 180) rfl rfl rfl ?_
                          refine wq_iald (q := 181) rfl (Or.inl ⟨rfl, Nat.le_of_ble_eq_true rfl⟩) rfl rfl (by first | omega | (simp [hup]; omega)) (by first | omega | (simp [hup]; omega)) ?_
                          refine wq_aload_n (kk := 0) (q := 182) rfl rfl rfl ?_
                          refine wq_getF (q := 185) f_Mo_42 rfl rfl (Nat.le_of_ble_eq_true rfl) rfl rfl rfl ?_
                          refine wq_iload_n (kk := 2) (q := 186) rfl rfl rfl ?_
                          refine wq_iald (q := 187) rfl (Or.inl ⟨rfl, Nat.le_of_ble_eq_true rfl⟩) rfl rfl (by first | omega | (simp [hup]; omega)) (by first | omega | (simp [hup]; omega)) ?_
                          refine wq_icmp_lt (tgt := 210) (q := 190) rfl rfl rfl (fun c187 => ?_) (fun c187 => ?_)
                          · skip
                            refine wq_iconst (n := 0) (q := 211) rfl rfl rfl ?_
                            refine wq_zret rfl rfl (Nat.le_refl _) (Nat.le_refl _) (by omega) (pC_f (fun z => ?_))
                            refine z.2 o ⟨hdp (by omega), c58, by omega, c84⟩ c50 ?_
                            unfold Dm
                            omega
                          · skip
                            refine wq_aload_n (kk := 0) (q := 191) rfl rfl rfl ?_
                            refine wq_getF (q := 194) f_Mo_42 rfl rfl (Nat.le_of_ble_eq_true rfl) rfl rfl rfl ?_
                            refine wq_iload_n (kk := 3) (q := 195) rfl rfl rfl ?_
                            refine wq_iald (q := 196) rfl (Or.inl ⟨rfl, Nat.le_of_ble_eq_true rfl⟩) rfl rfl (by first | omega | (simp [hup]; omega)) (by first | omega | (simp [hup]; omega)) ?_
                            refine wq_aload_n (kk := 0) (q := 197) rfl rfl rfl ?_
                            refine wq_getF (q := 200) f_Mo_42 rfl rfl (Nat.le_of_ble_eq_true rfl) rfl rfl rfl ?_
                            refine wq_iload_n (kk := 2) (q := 201) rfl rfl rfl ?_
                            refine wq_iald (q := 202) rfl (Or.inl ⟨rfl, Nat.le_of_ble_eq_true rfl⟩) rfl rfl (by first | omega | (simp [hup]; omega)) (by first | omega | (simp [hup]; omega)) ?_
                            refine wq_icmp_ne (tgt := 212) (q := 205) rfl rfl rfl (fun c202 => ?_) (fun c202 => ?_)
                            · skip
                              refine wq_iinc (i := 3) (n := 1) (q := 215) rfl rfl rfl (Nat.le_of_ble_eq_true rfl) rfl (by first | omega | (simp [hup]; omega)) (by first | omega | (simp [hup]; omega)) ?_
                              refine wq_goto (tgt := 38) rfl rfl ?_
                              refine ih _ (by omega) (o + 1) _ _ rfl (by omega) (by omega) (fun g g0 g1 g2 g3 => ?_) (by first | rfl | exact p4)
                              by_cases e : g = o
                              · subst e
                                have y1 := g1.2.1
                                have y2 := g1.2.2.1
                                have y3 := g1.2.2.2
                                first
                                | exact absurd c50 g2
                                | exact absurd y1 c58
                                | (unfold Dm at g3; omega)
                              · exact hF g (by omega) g1 g2 g3
                            · skip
                              refine wq_iload_n (kk := 3) (q := 206) rfl rfl rfl ?_
                              refine wq_iload_n (kk := 2) (q := 207) rfl rfl rfl ?_
                              refine wq_icmp_ge (tgt := 212) (q := 210) rfl rfl rfl (fun c207 => ?_) (fun c207 => ?_)
                              · skip
                                refine wq_iinc (i := 3) (n := 1) (q := 215) rfl rfl rfl (Nat.le_of_ble_eq_true rfl) rfl (by first | omega | (simp [hup]; omega)) (by first | omega | (simp [hup]; omega)) ?_
                                refine wq_goto (tgt := 38) rfl rfl ?_
                                refine ih _ (by omega) (o + 1) _ _ rfl (by omega) (by omega) (fun g g0 g1 g2 g3 => ?_) (by first | rfl | exact p4)
                                by_cases e : g = o
                                · subst e
                                  have y1 := g1.2.1
                                  have y2 := g1.2.2.1
                                  have y3 := g1.2.2.2
                                  first
                                  | exact absurd c50 g2
                                  | exact absurd y1 c58
                                  | (unfold Dm at g3; omega)
                                · exact hF g (by omega) g1 g2 g3
                              · skip
                                refine wq_iconst (n := 0) (q := 211) rfl rfl rfl ?_
                                refine wq_zret rfl rfl (Nat.le_refl _) (Nat.le_refl _) (by omega) (pC_f (fun z => ?_))
                                refine z.2 o ⟨hdp (by omega), c58, by omega, c84⟩ c50 ?_
                                unfold Dm
                                omega
                  · skip
                    refine wq_aload_n (kk := 0) (q := 139) rfl rfl rfl ?_
                    refine wq_getF (q := 142) f_Mo_39 rfl rfl (Nat.le_of_ble_eq_true rfl) rfl rfl rfl ?_
                    refine wq_iload_n (kk := 3) (q := 143) rfl rfl rfl ?_
                    refine wq_iald (q := 144) rfl (Or.inl ⟨rfl, Nat.le_of_ble_eq_true rfl⟩) rfl rfl (by first | omega | (simp [hup]; omega)) (by first | omega | (simp [hup]; omega)) ?_
                    refine wq_aload_n (kk := 0) (q := 145) rfl rfl rfl ?_
                    refine wq_getF (q := 148) f_Mo_39 rfl rfl (Nat.le_of_ble_eq_true rfl) rfl rfl rfl ?_
                    refine wq_iload_n (kk := 2) (q := 149) rfl rfl rfl ?_
                    refine wq_iald (q := 150) rfl (Or.inl ⟨rfl, Nat.le_of_ble_eq_true rfl⟩) rfl rfl (by first | omega | (simp [hup]; omega)) (by first | omega | (simp [hup]; omega)) ?_
                    refine wq_icmp_ne (tgt := 157) (q := 153) rfl rfl rfl (fun c150 => ?_) (fun c150 => ?_)
                    · skip
                      refine wq_iconst (n := 0) (q := 158) rfl rfl rfl ?_
                      refine wq_istore (i := 5) (q := 160) rfl rfl (Nat.le_of_ble_eq_true rfl) rfl ?_
                      refine wq_iload (i := 4) (q := 162) rfl rfl rfl ?_
                      refine wq_if_eq (tgt := 170) (q := 165) rfl rfl rfl (fun c162 => ?_) (fun c162 => ?_)
                      · skip
                        refine wq_iload (i := 5) (q := 172) rfl rfl rfl ?_
                        refine wq_if_eq (tgt := 212) (q := 175) rfl rfl rfl (fun c172 => ?_) (fun c172 => ?_)
                        · skip
                          refine wq_iinc (i := 3) (n := 1) (q := 215) rfl rfl rfl (Nat.le_of_ble_eq_true rfl) rfl (by first | omega | (simp [hup]; omega)) (by first | omega | (simp [hup]; omega)) ?_
                          refine wq_goto (tgt := 38) rfl rfl ?_
                          refine ih _ (by omega) (o + 1) _ _ rfl (by omega) (by omega) (fun g g0 g1 g2 g3 => ?_) (by first | rfl | exact p4)
                          by_cases e : g = o
                          · subst e
                            have y1 := g1.2.1
                            have y2 := g1.2.2.1
                            have y3 := g1.2.2.2
                            first
                            | exact absurd c50 g2
                            | exact absurd y1 c58
                            | (unfold Dm at g3; omega)
                          · exact hF g (by omega) g1 g2 g3
                        · skip
                          refine wq_aload_n (kk := 0) (q := 176) rfl rfl rfl ?_
                          refine wq_getF (q := 179) f_Mo_42 rfl rfl (Nat.le_of_ble_eq_true rfl) rfl rfl rfl ?_
                          refine wq_iload_n (kk := 3) (q := 180) rfl rfl rfl ?_
                          refine wq_iald (q := 181) rfl (Or.inl ⟨rfl, Nat.le_of_ble_eq_true rfl⟩) rfl rfl (by first | omega | (simp [hup]; omega)) (by first | omega | (simp [hup]; omega)) ?_
                          refine wq_aload_n (kk := 0) (q := 182) rfl rfl rfl ?_
                          refine wq_getF (q := 185) f_Mo_42 rfl rfl (Nat.le_of_ble_eq_true rfl) rfl rfl rfl ?_
                          refine wq_iload_n (kk := 2) (q := 186) rfl rfl rfl ?_
                          refine wq_iald (q := 187) rfl (Or.inl ⟨rfl, Nat.le_of_ble_eq_true rfl⟩) rfl rfl (by first | omega | (simp [hup]; omega)) (by first | omega | (simp [hup]; omega)) ?_
                          refine wq_icmp_lt (tgt := 210) (q := 190) rfl rfl rfl (fun c187 => ?_) (fun c187 => ?_)
                          · skip
                            refine wq_iconst (n := 0) (q := 211) rfl rfl rfl ?_
                            refine wq_zret rfl rfl (Nat.le_refl _) (Nat.le_refl _) (by omega) (pC_f (fun z => ?_))
                            refine z.2 o ⟨hdp (by omega), c58, by omega, c84⟩ c50 ?_
                            unfold Dm
                            omega
                          · skip
                            refine wq_aload_n (kk := 0) (q := 191) rfl rfl rfl ?_
                            refine wq_getF (q := 194) f_Mo_42 rfl rfl (Nat.le_of_ble_eq_true rfl) rfl rfl rfl ?_
                            refine wq_iload_n (kk := 3) (q := 195) rfl rfl rfl ?_
                            refine wq_iald (q := 196) rfl (Or.inl ⟨rfl, Nat.le_of_ble_eq_true rfl⟩) rfl rfl (by first | omega | (simp [hup]; omega)) (by first | omega | (simp [hup]; omega)) ?_
                            refine wq_aload_n (kk := 0) (q := 197) rfl rfl rfl ?_
                            refine wq_getF (q := 200) f_Mo_42 rfl rfl (Nat.le_of_ble_eq_true rfl) rfl rfl rfl ?_
                            refine wq_iload_n (kk := 2) (q := 201) rfl rfl rfl ?_
                            refine wq_iald (q := 202) rfl (Or.inl ⟨rfl, Nat.le_of_ble_eq_true rfl⟩) rfl rfl (by first | omega | (simp [hup]; omega)) (by first | omega | (simp [hup]; omega)) ?_
                            refine wq_icmp_ne (tgt := 212) (q := 205) rfl rfl rfl (fun c202 => ?_) (fun c202 => ?_)
                            · skip
                              refine wq_iinc (i := 3) (n := 1) (q := 215) rfl rfl rfl (Nat.le_of_ble_eq_true rfl) rfl (by first | omega | (simp [hup]; omega)) (by first | omega | (simp [hup]; omega)) ?_
                              refine wq_goto (tgt := 38) rfl rfl ?_
                              refine ih _ (by omega) (o + 1) _ _ rfl (by omega) (by omega) (fun g g0 g1 g2 g3 => ?_) (by first | rfl | exact p4)
                              by_cases e : g = o
                              · subst e
                                have y1 := g1.2.1
                                have y2 := g1.2.2.1
                                have y3 := g1.2.2.2
                                first
                                | exact absurd c50 g2
                                | exact absurd y1 c58
                                | (unfold Dm at g3; omega)
                              · exact hF g (by omega) g1 g2 g3
                            · skip
                              refine wq_iload_n (kk := 3) (q := 206) rfl rfl rfl ?_
                              refine wq_iload_n (kk := 2) (q := 207) rfl rfl rfl ?_
                              refine wq_icmp_ge (tgt := 212) (q := 210) rfl rfl rfl (fun c207 => ?_) (fun c207 => ?_)
                              · skip
                                refine wq_iinc (i := 3) (n := 1) (q := 215) rfl rfl rfl (Nat.le_of_ble_eq_true rfl) rfl (by first | omega | (simp [hup]; omega)) (by first | omega | (simp [hup]; omega)) ?_
                                refine wq_goto (tgt := 38) rfl rfl ?_
                                refine ih _ (by omega) (o + 1) _ _ rfl (by omega) (by omega) (fun g g0 g1 g2 g3 => ?_) (by first | rfl | exact p4)
                                by_cases e : g = o
                                · subst e
                                  have y1 := g1.2.1
                                  have y2 := g1.2.2.1
                                  have y3 := g1.2.2.2
                                  first
                                  | exact absurd c50 g2
                                  | exact absurd y1 c58
                                  | (unfold Dm at g3; omega)
                                · exact hF g (by omega) g1 g2 g3
                              · skip
                                refine wq_iconst (n := 0) (q := 211) rfl rfl rfl ?_
                                refine wq_zret rfl rfl (Nat.le_refl _) (Nat.le_refl _) (by omega) (pC_f (fun z => ?_))
                                refine z.2 o ⟨hdp (by omega), c58, by omega, c84⟩ c50 ?_
                                unfold Dm
                                omega
                      · skip
                        refine wq_iload (i := 5) (q := 167) rfl rfl rfl ?_
                        refine wq_if_eq (tgt := 210) (q := 170) rfl rfl rfl (fun c167 => ?_) (fun c167 => ?_)
                        · skip
                          refine wq_iconst (n := 0) (q := 211) rfl rfl rfl ?_
                          refine wq_zret rfl rfl (Nat.le_refl _) (Nat.le_refl _) (by omega) (pC_f (fun z => ?_))
                          refine z.2 o ⟨hdp (by omega), c58, by omega, c84⟩ c50 ?_
                          unfold Dm
                          omega
                        · skip
                          refine wq_iload (i := 5) (q := 172) rfl rfl rfl ?_
                          refine wq_if_eq (tgt := 212) (q := 175) rfl rfl rfl (fun c172 => ?_) (fun c172 => ?_)
                          · skip
                            refine wq_iinc (i := 3) (n := 1) (q := 215) rfl rfl rfl (Nat.le_of_ble_eq_true rfl) rfl (by first | omega | (simp [hup]; omega)) (by first | omega | (simp [hup]; omega)) ?_
                            refine wq_goto (tgt := 38) rfl rfl ?_
                            refine ih _ (by omega) (o + 1) _ _ rfl (by omega) (by omega) (fun g g0 g1 g2 g3 => ?_) (by first | rfl | exact p4)
                            by_cases e : g = o
                            · subst e
                              have y1 := g1.2.1
                              have y2 := g1.2.2.1
                              have y3 := g1.2.2.2
                              first
                              | exact absurd c50 g2
                              | exact absurd y1 c58
                              | (unfold Dm at g3; omega)
                            · exact hF g (by omega) g1 g2 g3
                          · skip
                            refine wq_aload_n (kk := 0) (q := 176) rfl rfl rfl ?_
                            refine wq_getF (q := 179) f_Mo_42 rfl rfl (Nat.le_of_ble_eq_true rfl) rfl rfl rfl ?_
                            refine wq_iload_n (kk := 3) (q := 180) rfl rfl rfl ?_
                            refine wq_iald (q := 181) rfl (Or.inl ⟨rfl, Nat.le_of_ble_eq_true rfl⟩) rfl rfl (by first | omega | (simp [hup]; omega)) (by first | omega | (simp [hup]; omega)) ?_
                            refine wq_aload_n (kk := 0) (q := 182) rfl rfl rfl ?_
                            refine wq_getF (q := 185) f_Mo_42 rfl rfl (Nat.le_of_ble_eq_true rfl) rfl rfl rfl ?_
                            refine wq_iload_n (kk := 2) (q := 186) rfl rfl rfl ?_
                            refine wq_iald (q := 187) rfl (Or.inl ⟨rfl, Nat.le_of_ble_eq_true rfl⟩) rfl rfl (by first | omega | (simp [hup]; omega)) (by first | omega | (simp [hup]; omega)) ?_
                            refine wq_icmp_lt (tgt := 210) (q := 190) rfl rfl rfl (fun c187 => ?_) (fun c187 => ?_)
                            · skip
                              refine wq_iconst (n := 0) (q := 211) rfl rfl rfl ?_
                              refine wq_zret rfl rfl (Nat.le_refl _) (Nat.le_refl _) (by omega) (pC_f (fun z => ?_))
                              refine z.2 o ⟨hdp (by omega), c58, by omega, c84⟩ c50 ?_
                              unfold Dm
                              omega
                            · skip
                              refine wq_aload_n (kk := 0) (q := 191) rfl rfl rfl ?_
                              refine wq_getF (q := 194) f_Mo_42 rfl rfl (Nat.le_of_ble_eq_true rfl) rfl rfl rfl ?_
                              refine wq_iload_n (kk := 3) (q := 195) rfl rfl rfl ?_
                              refine wq_iald (q := 196) rfl (Or.inl ⟨rfl, Nat.le_of_ble_eq_true rfl⟩) rfl rfl (by first | omega | (simp [hup]; omega)) (by first | omega | (simp [hup]; omega)) ?_
                              refine wq_aload_n (kk := 0) (q := 197) rfl rfl rfl ?_
                              refine wq_getF (q := 200) f_Mo_42 rfl rfl (Nat.le_of_ble_eq_true rfl) rfl rfl rfl ?_
                              refine wq_iload_n (kk := 2) (q := 201) rfl rfl rfl ?_
                              refine wq_iald (q := 202) rfl (Or.inl ⟨rfl, Nat.le_of_ble_eq_true rfl⟩) rfl rfl (by first | omega | (simp [hup]; omega)) (by first | omega | (simp [hup]; omega)) ?_
                              refine wq_icmp_ne (tgt := 212) (q := 205) rfl rfl rfl (fun c202 => ?_) (fun c202 => ?_)
                              · skip
                                refine wq_iinc (i := 3) (n := 1) (q := 215) rfl rfl rfl (Nat.le_of_ble_eq_true rfl) rfl (by first | omega | (simp [hup]; omega)) (by first | omega | (simp [hup]; omega)) ?_
                                refine wq_goto (tgt := 38) rfl rfl ?_
                                refine ih _ (by omega) (o + 1) _ _ rfl (by omega) (by omega) (fun g g0 g1 g2 g3 => ?_) (by first | rfl | exact p4)
                                by_cases e : g = o
                                · subst e
                                  have y1 := g1.2.1
                                  have y2 := g1.2.2.1
                                  have y3 := g1.2.2.2
                                  first
                                  | exact absurd c50 g2
                                  | exact absurd y1 c58
                                  | (unfold Dm at g3; omega)
                                · exact hF g (by omega) g1 g2 g3
                              · skip
                                refine wq_iload_n (kk := 3) (q := 206) rfl rfl rfl ?_
                                refine wq_iload_n (kk := 2) (q := 207) rfl rfl rfl ?_
                                refine wq_icmp_ge (tgt := 212) (q := 210) rfl rfl rfl (fun c207 => ?_) (fun c207 => ?_)
                                · skip
                                  refine wq_iinc (i := 3) (n := 1) (q := 215) rfl rfl rfl (Nat.le_of_ble_eq_true rfl) rfl (by first | omega | (simp [hup]; omega)) (by first | omega | (simp [hup]; omega)) ?_
                                  refine wq_goto (tgt := 38) rfl rfl ?_
                                  refine ih _ (by omega) (o + 1) _ _ rfl (by omega) (by omega) (fun g g0 g1 g2 g3 => ?_) (by first | rfl | exact p4)
                                  by_cases e : g = o
                                  · subst e
                                    have y1 := g1.2.1
                                    have y2 := g1.2.2.1
                                    have y3 := g1.2.2.2
                                    first
                                    | exact absurd c50 g2
                                    | exact absurd y1 c58
                                    | (unfold Dm at g3; omega)
                                  · exact hF g (by omega) g1 g2 g3
                                · skip
                                  refine wq_iconst (n := 0) (q := 211) rfl rfl rfl ?_
                                  refine wq_zret rfl rfl (Nat.le_refl _) (Nat.le_refl _) (by omega) (pC_f (fun z => ?_))
                                  refine z.2 o ⟨hdp (by omega), c58, by omega, c84⟩ c50 ?_
                                  unfold Dm
                                  omega
                    · skip
                      refine wq_iconst (n := 1) (q := 154) rfl rfl rfl ?_
                      refine wq_goto (tgt := 158) rfl rfl ?_
                      refine wq_istore (i := 5) (q := 160) rfl rfl (Nat.le_of_ble_eq_true rfl) rfl ?_
                      refine wq_iload (i := 4) (q := 162) rfl rfl rfl ?_
                      refine wq_if_eq (tgt := 170) (q := 165) rfl rfl rfl (fun c162 => ?_) (fun c162 => ?_)
                      · skip
                        refine wq_iload (i := 5) (q := 172) rfl rfl rfl ?_
                        refine wq_if_eq (tgt := 212) (q := 175) rfl rfl rfl (fun c172 => ?_) (fun c172 => ?_)
                        · skip
                          refine wq_iinc (i := 3) (n := 1) (q := 215) rfl rfl rfl (Nat.le_of_ble_eq_true rfl) rfl (by first | omega | (simp [hup]; omega)) (by first | omega | (simp [hup]; omega)) ?_
                          refine wq_goto (tgt := 38) rfl rfl ?_
                          refine ih _ (by omega) (o + 1) _ _ rfl (by omega) (by omega) (fun g g0 g1 g2 g3 => ?_) (by first | rfl | exact p4)
                          by_cases e : g = o
                          · subst e
                            have y1 := g1.2.1
                            have y2 := g1.2.2.1
                            have y3 := g1.2.2.2
                            first
                            | exact absurd c50 g2
                            | exact absurd y1 c58
                            | (unfold Dm at g3; omega)
                          · exact hF g (by omega) g1 g2 g3
                        · skip
                          refine wq_aload_n (kk := 0) (q := 176) rfl rfl rfl ?_
                          refine wq_getF (q := 179) f_Mo_42 rfl rfl (Nat.le_of_ble_eq_true rfl) rfl rfl rfl ?_
                          refine wq_iload_n (kk := 3) (q := 180) rfl rfl rfl ?_
                          refine wq_iald (q := 181) rfl (Or.inl ⟨rfl, Nat.le_of_ble_eq_true rfl⟩) rfl rfl (by first | omega | (simp [hup]; omega)) (by first | omega | (simp [hup]; omega)) ?_
                          refine wq_aload_n (kk := 0) (q := 182) rfl rfl rfl ?_
                          refine wq_getF (q := 185) f_Mo_42 rfl rfl (Nat.le_of_ble_eq_true rfl) rfl rfl rfl ?_
                          refine wq_iload_n (kk := 2) (q := 186) rfl rfl rfl ?_
                          refine wq_iald (q := 187) rfl (Or.inl ⟨rfl, Nat.le_of_ble_eq_true rfl⟩) rfl rfl (by first | omega | (simp [hup]; omega)) (by first | omega | (simp [hup]; omega)) ?_
                          refine wq_icmp_lt (tgt := 210) (q := 190) rfl rfl rfl (fun c187 => ?_) (fun c187 => ?_)
                          · skip
                            refine wq_iconst (n := 0) (q := 211) rfl rfl rfl ?_
                            refine wq_zret rfl rfl (Nat.le_refl _) (Nat.le_refl _) (by omega) (pC_f (fun z => ?_))
                            refine z.2 o ⟨hdp (by omega), c58, by omega, c84⟩ c50 ?_
                            unfold Dm
                            omega
                          · skip
                            refine wq_aload_n (kk := 0) (q := 191) rfl rfl rfl ?_
                            refine wq_getF (q := 194) f_Mo_42 rfl rfl (Nat.le_of_ble_eq_true rfl) rfl rfl rfl ?_
                            refine wq_iload_n (kk := 3) (q := 195) rfl rfl rfl ?_
                            refine wq_iald (q := 196) rfl (Or.inl ⟨rfl, Nat.le_of_ble_eq_true rfl⟩) rfl rfl (by first | omega | (simp [hup]; omega)) (by first | omega | (simp [hup]; omega)) ?_
                            refine wq_aload_n (kk := 0) (q := 197) rfl rfl rfl ?_
                            refine wq_getF (q := 200) f_Mo_42 rfl rfl (Nat.le_of_ble_eq_true rfl) rfl rfl rfl ?_
                            refine wq_iload_n (kk := 2) (q := 201) rfl rfl rfl ?_
                            refine wq_iald (q := 202) rfl (Or.inl ⟨rfl, Nat.le_of_ble_eq_true rfl⟩) rfl rfl (by first | omega | (simp [hup]; omega)) (by first | omega | (simp [hup]; omega)) ?_
                            refine wq_icmp_ne (tgt := 212) (q := 205) rfl rfl rfl (fun c202 => ?_) (fun c202 => ?_)
                            · skip
                              refine wq_iinc (i := 3) (n := 1) (q := 215) rfl rfl rfl (Nat.le_of_ble_eq_true rfl) rfl (by first | omega | (simp [hup]; omega)) (by first | omega | (simp [hup]; omega)) ?_
                              refine wq_goto (tgt := 38) rfl rfl ?_
                              refine ih _ (by omega) (o + 1) _ _ rfl (by omega) (by omega) (fun g g0 g1 g2 g3 => ?_) (by first | rfl | exact p4)
                              by_cases e : g = o
                              · subst e
                                have y1 := g1.2.1
                                have y2 := g1.2.2.1
                                have y3 := g1.2.2.2
                                first
                                | exact absurd c50 g2
                                | exact absurd y1 c58
                                | (unfold Dm at g3; omega)
                              · exact hF g (by omega) g1 g2 g3
                            · skip
                              refine wq_iload_n (kk := 3) (q := 206) rfl rfl rfl ?_
                              refine wq_iload_n (kk := 2) (q := 207) rfl rfl rfl ?_
                              refine wq_icmp_ge (tgt := 212) (q := 210) rfl rfl rfl (fun c207 => ?_) (fun c207 => ?_)
                              · skip
                                refine wq_iinc (i := 3) (n := 1) (q := 215) rfl rfl rfl (Nat.le_of_ble_eq_true rfl) rfl (by first | omega | (simp [hup]; omega)) (by first | omega | (simp [hup]; omega)) ?_
                                refine wq_goto (tgt := 38) rfl rfl ?_
                                refine ih _ (by omega) (o + 1) _ _ rfl (by omega) (by omega) (fun g g0 g1 g2 g3 => ?_) (by first | rfl | exact p4)
                                by_cases e : g = o
                                · subst e
                                  have y1 := g1.2.1
                                  have y2 := g1.2.2.1
                                  have y3 := g1.2.2.2
                                  first
                                  | exact absurd c50 g2
                                  | exact absurd y1 c58
                                  | (unfold Dm at g3; omega)
                                · exact hF g (by omega) g1 g2 g3
                              · skip
                                refine wq_iconst (n := 0) (q := 211) rfl rfl rfl ?_
                                refine wq_zret rfl rfl (Nat.le_refl _) (Nat.le_refl _) (by omega) (pC_f (fun z => ?_))
                                refine z.2 o ⟨hdp (by omega), c58, by omega, c84⟩ c50 ?_
                                unfold Dm
                                omega
                      · skip
                        refine wq_iload (i := 5) (q := 167) rfl rfl rfl ?_
                        refine wq_if_eq (tgt := 210) (q := 170) rfl rfl rfl (fun c167 => ?_) (fun c167 => ?_)
                        · skip
                          refine wq_iconst (n := 0) (q := 211) rfl rfl rfl ?_
                          refine wq_zret rfl rfl (Nat.le_refl _) (Nat.le_refl _) (by omega) (pC_f (fun z => ?_))
                          refine z.2 o ⟨hdp (by omega), c58, by omega, c84⟩ c50 ?_
                          unfold Dm
                          omega
                        · skip
                          refine wq_iload (i := 5) (q := 172) rfl rfl rfl ?_
                          refine wq_if_eq (tgt := 212) (q := 175) rfl rfl rfl (fun c172 => ?_) (fun c172 => ?_)
                          · skip
                            refine wq_iinc (i := 3) (n := 1) (q := 215) rfl rfl rfl (Nat.le_of_ble_eq_true rfl) rfl (by first | omega | (simp [hup]; omega)) (by first | omega | (simp [hup]; omega)) ?_
                            refine wq_goto (tgt := 38) rfl rfl ?_
                            refine ih _ (by omega) (o + 1) _ _ rfl (by omega) (by omega) (fun g g0 g1 g2 g3 => ?_) (by first | rfl | exact p4)
                            by_cases e : g = o
                            · subst e
                              have y1 := g1.2.1
                              have y2 := g1.2.2.1
                              have y3 := g1.2.2.2
                              first
                              | exact absurd c50 g2
                              | exact absurd y1 c58
                              | (unfold Dm at g3; omega)
                            · exact hF g (by omega) g1 g2 g3
                          · skip
                            refine wq_aload_n (kk := 0) (q := 176) rfl rfl rfl ?_
                            refine wq_getF (q := 179) f_Mo_42 rfl rfl (Nat.le_of_ble_eq_true rfl) rfl rfl rfl ?_
                            refine wq_iload_n (kk := 3) (q := 180) rfl rfl rfl ?_
                            refine wq_iald (q := 181) rfl (Or.inl ⟨rfl, Nat.le_of_ble_eq_true rfl⟩) rfl rfl (by first | omega | (simp [hup]; omega)) (by first | omega | (simp [hup]; omega)) ?_
                            refine wq_aload_n (kk := 0) (q := 182) rfl rfl rfl ?_
                            refine wq_getF (q := 185) f_Mo_42 rfl rfl (Nat.le_of_ble_eq_true rfl) rfl rfl rfl ?_
                            refine wq_iload_n (kk := 2) (q := 186) rfl rfl rfl ?_
                            refine wq_iald (q := 187) rfl (Or.inl ⟨rfl, Nat.le_of_ble_eq_true rfl⟩) rfl rfl (by first | omega | (simp [hup]; omega)) (by first | omega | (simp [hup]; omega)) ?_
                            refine wq_icmp_lt (tgt := 210) (q := 190) rfl rfl rfl (fun c187 => ?_) (fun c187 => ?_)
                            · skip
                              refine wq_iconst (n := 0) (q := 211) rfl rfl rfl ?_
                              refine wq_zret rfl rfl (Nat.le_refl _) (Nat.le_refl _) (by omega) (pC_f (fun z => ?_))
                              refine z.2 o ⟨hdp (by omega), c58, by omega, c84⟩ c50 ?_
                              unfold Dm
                              omega
                            · skip
                              refine wq_aload_n (kk := 0) (q := 191) rfl rfl rfl ?_
                              refine wq_getF (q := 194) f_Mo_42 rfl rfl (Nat.le_of_ble_eq_true rfl) rfl rfl rfl ?_
                              refine wq_iload_n (kk := 3) (q := 195) rfl rfl rfl ?_
                              refine wq_iald (q := 196) rfl (Or.inl ⟨rfl, Nat.le_of_ble_eq_true rfl⟩) rfl rfl (by first | omega | (simp [hup]; omega)) (by first | omega | (simp [hup]; omega)) ?_
                              refine wq_aload_n (kk := 0) (q := 197) rfl rfl rfl ?_
                              refine wq_getF (q := 200) f_Mo_42 rfl rfl (Nat.le_of_ble_eq_true rfl) rfl rfl rfl ?_
                              refine wq_iload_n (kk := 2) (q := 201) rfl rfl rfl ?_
                              refine wq_iald (q := 202) rfl (Or.inl ⟨rfl, Nat.le_of_ble_eq_true rfl⟩) rfl rfl (by first | omega | (simp [hup]; omega)) (by first | omega | (simp [hup]; omega)) ?_
                              refine wq_icmp_ne (tgt := 212) (q := 205) rfl rfl rfl (fun c202 => ?_) (fun c202 => ?_)
                              · skip
                                refine wq_iinc (i := 3) (n := 1) (q := 215) rfl rfl rfl (Nat.le_of_ble_eq_true rfl) rfl (by first | omega | (simp [hup]; omega)) (by first | omega | (simp [hup]; omega)) ?_
                                refine wq_goto (tgt := 38) rfl rfl ?_
                                refine ih _ (by omega) (o + 1) _ _ rfl (by omega) (by omega) (fun g g0 g1 g2 g3 => ?_) (by first | rfl | exact p4)
                                by_cases e : g = o
                                · subst e
                                  have y1 := g1.2.1
                                  have y2 := g1.2.2.1
                                  have y3 := g1.2.2.2
                                  first
                                  | exact absurd c50 g2
                                  | exact absurd y1 c58
                                  | (unfold Dm at g3; omega)
                                · exact hF g (by omega) g1 g2 g3
                              · skip
                                refine wq_iload_n (kk := 3) (q := 206) rfl rfl rfl ?_
                                refine wq_iload_n (kk := 2) (q := 207) rfl rfl rfl ?_
                                refine wq_icmp_ge (tgt := 212) (q := 210) rfl rfl rfl (fun c207 => ?_) (fun c207 => ?_)
                                · skip
                                  refine wq_iinc (i := 3) (n := 1) (q := 215) rfl rfl rfl (Nat.le_of_ble_eq_true rfl) rfl (by first | omega | (simp [hup]; omega)) (by first | omega | (simp [hup]; omega)) ?_
                                  refine wq_goto (tgt := 38) rfl rfl ?_
                                  refine ih _ (by omega) (o + 1) _ _ rfl (by omega) (by omega) (fun g g0 g1 g2 g3 => ?_) (by first | rfl | exact p4)
                                  by_cases e : g = o
                                  · subst e
                                    have y1 := g1.2.1
                                    have y2 := g1.2.2.1
                                    have y3 := g1.2.2.2
                                    first
                                    | exact absurd c50 g2
                                    | exact absurd y1 c58
                                    | (unfold Dm at g3; omega)
                                  · exact hF g (by omega) g1 g2 g3
                                · skip
                                  refine wq_iconst (n := 0) (q := 211) rfl rfl rfl ?_
                                  refine wq_zret rfl rfl (Nat.le_refl _) (Nat.le_refl _) (by omega) (pC_f (fun z => ?_))
                                  refine z.2 o ⟨hdp (by omega), c58, by omega, c84⟩ c50 ?_
                                  unfold Dm
                                  omega
                · skip
                  refine wq_iconst (n := 1) (q := 119) rfl rfl rfl ?_
                  refine wq_goto (tgt := 123) rfl rfl ?_
                  refine wq_istore (i := 4) (q := 125) rfl rfl (Nat.le_of_ble_eq_true rfl) rfl ?_
                  refine wq_aload_n (kk := 0) (q := 126) rfl rfl rfl ?_
                  refine wq_iload_n (kk := 3) (q := 127) rfl rfl rfl ?_
                  refine wq_callV (q := 130) (m' := m_Mo_leavesAt) (R' := rm 2) (As := [_]) rfl rfl l_Mo_250 vm_Mo_leavesAt rfl rfl rfl (Or.inl ⟨rfl, Nat.le_of_ble_eq_true rfl⟩) (Nat.le_of_ble_eq_true rfl) (Nat.le_of_ble_eq_true rfl) (Nat.le_refl _) (Nat.le_refl _) (Nat.le_of_ble_eq_true rfl) (Mo_leavesAt_ok N o h r hM (hdp (by omega))) rfl ?_
                  rintro rv h r ⟨rfl, rfl, rfl⟩ -
                  refine wq_aload_n (kk := 0) (q := 131) rfl rfl rfl ?_
                  refine wq_iload_n (kk := 2) (q := 132) rfl rfl rfl ?_
                  refine wq_callV (q := 135) (m' := m_Mo_leavesAt) (R' := rm 2) (As := [_]) rfl rfl l_Mo_250 vm_Mo_leavesAt rfl rfl rfl (Or.inl ⟨rfl, Nat.le_of_ble_eq_true rfl⟩) (Nat.le_of_ble_eq_true rfl) (Nat.le_of_ble_eq_true rfl) (Nat.le_refl _) (Nat.le_refl _) (Nat.le_of_ble_eq_true rfl) (Mo_leavesAt_ok N d h r hM hd) rfl ?_
                  rintro rv h r ⟨rfl, rfl, rfl⟩ -
                  refine wq_icmp_ne (tgt := 157) (q := 138) rfl rfl rfl (fun c135 => ?_) (fun c135 => ?_)
                  · skip
                    refine wq_iconst (n := 0) (q := 158) rfl rfl rfl ?_
                    refine wq_istore (i := 5) (q := 160) rfl rfl (Nat.le_of_ble_eq_true rfl) rfl ?_
                    refine wq_iload (i := 4) (q := 162) rfl rfl rfl ?_
                    refine wq_if_eq (tgt := 170) (q := 165) rfl rfl rfl (fun c162 => ?_) (fun c162 => ?_)
                    · skip
                      refine wq_iload (i := 5) (q := 172) rfl rfl rfl ?_
                      refine wq_if_eq (tgt := 212) (q := 175) rfl rfl rfl (fun c172 => ?_) (fun c172 => ?_)
                      · skip
                        refine wq_iinc (i := 3) (n := 1) (q := 215) rfl rfl rfl (Nat.le_of_ble_eq_true rfl) rfl (by first | omega | (simp [hup]; omega)) (by first | omega | (simp [hup]; omega)) ?_
                        refine wq_goto (tgt := 38) rfl rfl ?_
                        refine ih _ (by omega) (o + 1) _ _ rfl (by omega) (by omega) (fun g g0 g1 g2 g3 => ?_) (by first | rfl | exact p4)
                        by_cases e : g = o
                        · subst e
                          have y1 := g1.2.1
                          have y2 := g1.2.2.1
                          have y3 := g1.2.2.2
                          first
                          | exact absurd c50 g2
                          | exact absurd y1 c58
                          | (unfold Dm at g3; omega)
                        · exact hF g (by omega) g1 g2 g3
                      · skip
                        refine wq_aload_n (kk := 0) (q := 176) rfl rfl rfl ?_
                        refine wq_getF (q := 179) f_Mo_42 rfl rfl (Nat.le_of_ble_eq_true rfl) rfl rfl rfl ?_
                        refine wq_iload_n (kk := 3) (q := 180) rfl rfl rfl ?_
                        refine wq_iald (q := 181) rfl (Or.inl ⟨rfl, Nat.le_of_ble_eq_true rfl⟩) rfl rfl (by first | omega | (simp [hup]; omega)) (by first | omega | (simp [hup]; omega)) ?_
                        refine wq_aload_n (kk := 0) (q := 182) rfl rfl rfl ?_
                        refine wq_getF (q := 185) f_Mo_42 rfl rfl (Nat.le_of_ble_eq_true rfl) rfl rfl rfl ?_
                        refine wq_iload_n (kk := 2) (q := 186) rfl rfl rfl ?_
                        refine wq_iald (q := 187) rfl (Or.inl ⟨rfl, Nat.le_of_ble_eq_true rfl⟩) rfl rfl (by first | omega | (simp [hup]; omega)) (by first | omega | (simp [hup]; omega)) ?_
                        refine wq_icmp_lt (tgt := 210) (q := 190) rfl rfl rfl (fun c187 => ?_) (fun c187 => ?_)
                        · skip
                          refine wq_iconst (n := 0) (q := 211) rfl rfl rfl ?_
                          refine wq_zret rfl rfl (Nat.le_refl _) (Nat.le_refl _) (by omega) (pC_f (fun z => ?_))
                          refine z.2 o ⟨hdp (by omega), c58, by omega, c84⟩ c50 ?_
                          unfold Dm
                          omega
                        · skip
                          refine wq_aload_n (kk := 0) (q := 191) rfl rfl rfl ?_
                          refine wq_getF (q := 194) f_Mo_42 rfl rfl (Nat.le_of_ble_eq_true rfl) rfl rfl rfl ?_
                          refine wq_iload_n (kk := 3) (q := 195) rfl rfl rfl ?_
                          refine wq_iald (q := 196) rfl (Or.inl ⟨rfl, Nat.le_of_ble_eq_true rfl⟩) rfl rfl (by first | omega | (simp [hup]; omega)) (by first | omega | (simp [hup]; omega)) ?_
                          refine wq_aload_n (kk := 0) (q := 197) rfl rfl rfl ?_
                          refine wq_getF (q := 200) f_Mo_42 rfl rfl (Nat.le_of_ble_eq_true rfl) rfl rfl rfl ?_
                          refine wq_iload_n (kk := 2) (q := 201) rfl rfl rfl ?_
                          refine wq_iald (q := 202) rfl (Or.inl ⟨rfl, Nat.le_of_ble_eq_true rfl⟩) rfl rfl (by first | omega | (simp [hup]; omega)) (by first | omega | (simp [hup]; omega)) ?_
                          refine wq_icmp_ne (tgt := 212) (q := 205) rfl rfl rfl (fun c202 => ?_) (fun c202 => ?_)
                          · skip
                            refine wq_iinc (i := 3) (n := 1) (q := 215) rfl rfl rfl (Nat.le_of_ble_eq_true rfl) rfl (by first | omega | (simp [hup]; omega)) (by first | omega | (simp [hup]; omega)) ?_
                            refine wq_goto (tgt := 38) rfl rfl ?_
                            refine ih _ (by omega) (o + 1) _ _ rfl (by omega) (by omega) (fun g g0 g1 g2 g3 => ?_) (by first | rfl | exact p4)
                            by_cases e : g = o
                            · subst e
                              have y1 := g1.2.1
                              have y2 := g1.2.2.1
                              have y3 := g1.2.2.2
                              first
                              | exact absurd c50 g2
                              | exact absurd y1 c58
                              | (unfold Dm at g3; omega)
                            · exact hF g (by omega) g1 g2 g3
                          · skip
                            refine wq_iload_n (kk := 3) (q := 206) rfl rfl rfl ?_
                            refine wq_iload_n (kk := 2) (q := 207) rfl rfl rfl ?_
                            refine wq_icmp_ge (tgt := 212) (q := 210) rfl rfl rfl (fun c207 => ?_) (fun c207 => ?_)
                            · skip
                              refine wq_iinc (i := 3) (n := 1) (q := 215) rfl rfl rfl (Nat.le_of_ble_eq_true rfl) rfl (by first | omega | (simp [hup]; omega)) (by first | omega | (simp [hup]; omega)) ?_
                              refine wq_goto (tgt := 38) rfl rfl ?_
                              refine ih _ (by omega) (o + 1) _ _ rfl (by omega) (by omega) (fun g g0 g1 g2 g3 => ?_) (by first | rfl | exact p4)
                              by_cases e : g = o
                              · subst e
                                have y1 := g1.2.1
                                have y2 := g1.2.2.1
                                have y3 := g1.2.2.2
                                first
                                | exact absurd c50 g2
                                | exact absurd y1 c58
                                | (unfold Dm at g3; omega)
                              · exact hF g (by omega) g1 g2 g3
                            · skip
                              refine wq_iconst (n := 0) (q := 211) rfl rfl rfl ?_
                              refine wq_zret rfl rfl (Nat.le_refl _) (Nat.le_refl _) (by omega) (pC_f (fun z => ?_))
                              refine z.2 o ⟨hdp (by omega), c58, by omega, c84⟩ c50 ?_
                              unfold Dm
                              omega
                    · skip
                      refine wq_iload (i := 5) (q := 167) rfl rfl rfl ?_
                      refine wq_if_eq (tgt := 210) (q := 170) rfl rfl rfl (fun c167 => ?_) (fun c167 => ?_)
                      · skip
                        refine wq_iconst (n := 0) (q := 211) rfl rfl rfl ?_
                        refine wq_zret rfl rfl (Nat.le_refl _) (Nat.le_refl _) (by omega) (pC_f (fun z => ?_))
                        refine z.2 o ⟨hdp (by omega), c58, by omega, c84⟩ c50 ?_
                        unfold Dm
                        omega
                      · skip
                        refine wq_iload (i := 5) (q := 172) rfl rfl rfl ?_
                        refine wq_if_eq (tgt := 212) (q := 175) rfl rfl rfl (fun c172 => ?_) (fun c172 => ?_)
                        · skip
                          refine wq_iinc (i := 3) (n := 1) (q := 215) rfl rfl rfl (Nat.le_of_ble_eq_true rfl) rfl (by first | omega | (simp [hup]; omega)) (by first | omega | (simp [hup]; omega)) ?_
                          refine wq_goto (tgt := 38) rfl rfl ?_
                          refine ih _ (by omega) (o + 1) _ _ rfl (by omega) (by omega) (fun g g0 g1 g2 g3 => ?_) (by first | rfl | exact p4)
                          by_cases e : g = o
                          · subst e
                            have y1 := g1.2.1
                            have y2 := g1.2.2.1
                            have y3 := g1.2.2.2
                            first
                            | exact absurd c50 g2
                            | exact absurd y1 c58
                            | (unfold Dm at g3; omega)
                          · exact hF g (by omega) g1 g2 g3
                        · skip
                          refine wq_aload_n (kk := 0) (q := 176) rfl rfl rfl ?_
                          refine wq_getF (q := 179) f_Mo_42 rfl rfl (Nat.le_of_ble_eq_true rfl) rfl rfl rfl ?_
                          refine wq_iload_n (kk := 3) (q := 180) rfl rfl rfl ?_
                          refine wq_iald (q := 181) rfl (Or.inl ⟨rfl, Nat.le_of_ble_eq_true rfl⟩) rfl rfl (by first | omega | (simp [hup]; omega)) (by first | omega | (simp [hup]; omega)) ?_
                          refine wq_aload_n (kk := 0) (q := 182) rfl rfl rfl ?_
                          refine wq_getF (q := 185) f_Mo_42 rfl rfl (Nat.le_of_ble_eq_true rfl) rfl rfl rfl ?_
                          refine wq_iload_n (kk := 2) (q := 186) rfl rfl rfl ?_
                          refine wq_iald (q := 187) rfl (Or.inl ⟨rfl, Nat.le_of_ble_eq_true rfl⟩) rfl rfl (by first | omega | (simp [hup]; omega)) (by first | omega | (simp [hup]; omega)) ?_
                          refine wq_icmp_lt (tgt := 210) (q := 190) rfl rfl rfl (fun c187 => ?_) (fun c187 => ?_)
                          · skip
                            refine wq_iconst (n := 0) (q := 211) rfl rfl rfl ?_
                            refine wq_zret rfl rfl (Nat.le_refl _) (Nat.le_refl _) (by omega) (pC_f (fun z => ?_))
                            refine z.2 o ⟨hdp (by omega), c58, by omega, c84⟩ c50 ?_
                            unfold Dm
                            omega
                          · skip
                            refine wq_aload_n (kk := 0) (q := 191) rfl rfl rfl ?_
                            refine wq_getF (q := 194) f_Mo_42 rfl rfl (Nat.le_of_ble_eq_true rfl) rfl rfl rfl ?_
                            refine wq_iload_n (kk := 3) (q := 195) rfl rfl rfl ?_
                            refine wq_iald (q := 196) rfl (Or.inl ⟨rfl, Nat.le_of_ble_eq_true rfl⟩) rfl rfl (by first | omega | (simp [hup]; omega)) (by first | omega | (simp [hup]; omega)) ?_
                            refine wq_aload_n (kk := 0) (q := 197) rfl rfl rfl ?_
                            refine wq_getF (q := 200) f_Mo_42 rfl rfl (Nat.le_of_ble_eq_true rfl) rfl rfl rfl ?_
                            refine wq_iload_n (kk := 2) (q := 201) rfl rfl rfl ?_
                            refine wq_iald (q := 202) rfl (Or.inl ⟨rfl, Nat.le_of_ble_eq_true rfl⟩) rfl rfl (by first | omega | (simp [hup]; omega)) (by first | omega | (simp [hup]; omega)) ?_
                            refine wq_icmp_ne (tgt := 212) (q := 205) rfl rfl rfl (fun c202 => ?_) (fun c202 => ?_)
                            · skip
                              refine wq_iinc (i := 3) (n := 1) (q := 215) rfl rfl rfl (Nat.le_of_ble_eq_true rfl) rfl (by first | omega | (simp [hup]; omega)) (by first | omega | (simp [hup]; omega)) ?_
                              refine wq_goto (tgt := 38) rfl rfl ?_
                              refine ih _ (by omega) (o + 1) _ _ rfl (by omega) (by omega) (fun g g0 g1 g2 g3 => ?_) (by first | rfl | exact p4)
                              by_cases e : g = o
                              · subst e
                                have y1 := g1.2.1
                                have y2 := g1.2.2.1
                                have y3 := g1.2.2.2
                                first
                                | exact absurd c50 g2
                                | exact absurd y1 c58
                                | (unfold Dm at g3; omega)
                              · exact hF g (by omega) g1 g2 g3
                            · skip
                              refine wq_iload_n (kk := 3) (q := 206) rfl rfl rfl ?_
                              refine wq_iload_n (kk := 2) (q := 207) rfl rfl rfl ?_
                              refine wq_icmp_ge (tgt := 212) (q := 210) rfl rfl rfl (fun c207 => ?_) (fun c207 => ?_)
                              · skip
                                refine wq_iinc (i := 3) (n := 1) (q := 215) rfl rfl rfl (Nat.le_of_ble_eq_true rfl) rfl (by first | omega | (simp [hup]; omega)) (by first | omega | (simp [hup]; omega)) ?_
                                refine wq_goto (tgt := 38) rfl rfl ?_
                                refine ih _ (by omega) (o + 1) _ _ rfl (by omega) (by omega) (fun g g0 g1 g2 g3 => ?_) (by first | rfl | exact p4)
                                by_cases e : g = o
                                · subst e
                                  have y1 := g1.2.1
                                  have y2 := g1.2.2.1
                                  have y3 := g1.2.2.2
                                  first
                                  | exact absurd c50 g2
                                  | exact absurd y1 c58
                                  | (unfold Dm at g3; omega)
                                · exact hF g (by omega) g1 g2 g3
                              · skip
                                refine wq_iconst (n := 0) (q := 211) rfl rfl rfl ?_
                                refine wq_zret rfl rfl (Nat.le_refl _) (Nat.le_refl _) (by omega) (pC_f (fun z => ?_))
                                refine z.2 o ⟨hdp (by omega), c58, by omega, c84⟩ c50 ?_
                                unfold Dm
                                omega
                  · skip
                    refine wq_aload_n (kk := 0) (q := 139) rfl rfl rfl ?_
                    refine wq_getF (q := 142) f_Mo_39 rfl rfl (Nat.le_of_ble_eq_true rfl) rfl rfl rfl ?_
                    refine wq_iload_n (kk := 3) (q := 143) rfl rfl rfl ?_
                    refine wq_iald (q := 144) rfl (Or.inl ⟨rfl, Nat.le_of_ble_eq_true rfl⟩) rfl rfl (by first | omega | (simp [hup]; omega)) (by first | omega | (simp [hup]; omega)) ?_
                    refine wq_aload_n (kk := 0) (q := 145) rfl rfl rfl ?_
                    refine wq_getF (q := 148) f_Mo_39 rfl rfl (Nat.le_of_ble_eq_true rfl) rfl rfl rfl ?_
                    refine wq_iload_n (kk := 2) (q := 149) rfl rfl rfl ?_
                    refine wq_iald (q := 150) rfl (Or.inl ⟨rfl, Nat.le_of_ble_eq_true rfl⟩) rfl rfl (by first | omega | (simp [hup]; omega)) (by first | omega | (simp [hup]; omega)) ?_
                    refine wq_icmp_ne (tgt := 157) (q := 153) rfl rfl rfl (fun c150 => ?_) (fun c150 => ?_)
                    · skip
                      refine wq_iconst (n := 0) (q := 158) rfl rfl rfl ?_
                      refine wq_istore (i := 5) (q := 160) rfl rfl (Nat.le_of_ble_eq_true rfl) rfl ?_
                      refine wq_iload (i := 4) (q := 162) rfl rfl rfl ?_
                      refine wq_if_eq (tgt := 170) (q := 165) rfl rfl rfl (fun c162 => ?_) (fun c162 => ?_)
                      · skip
                        refine wq_iload (i := 5) (q := 172) rfl rfl rfl ?_
                        refine wq_if_eq (tgt := 212) (q := 175) rfl rfl rfl (fun c172 => ?_) (fun c172 => ?_)
                        · skip
                          refine wq_iinc (i := 3) (n := 1) (q := 215) rfl rfl rfl (Nat.le_of_ble_eq_true rfl) rfl (by first | omega | (simp [hup]; omega)) (by first | omega | (simp [hup]; omega)) ?_
                          refine wq_goto (tgt := 38) rfl rfl ?_
                          refine ih _ (by omega) (o + 1) _ _ rfl (by omega) (by omega) (fun g g0 g1 g2 g3 => ?_) (by first | rfl | exact p4)
                          by_cases e : g = o
                          · subst e
                            have y1 := g1.2.1
                            have y2 := g1.2.2.1
                            have y3 := g1.2.2.2
                            first
                            | exact absurd c50 g2
                            | exact absurd y1 c58
                            | (unfold Dm at g3; omega)
                          · exact hF g (by omega) g1 g2 g3
                        · skip
                          refine wq_aload_n (kk := 0) (q := 176) rfl rfl rfl ?_
                          refine wq_getF (q := 179) f_Mo_42 rfl rfl (Nat.le_of_ble_eq_true rfl) rfl rfl rfl ?_
                          refine wq_iload_n (kk := 3) (q := 180) rfl rfl rfl ?_
                          refine wq_iald (q := 181) rfl (Or.inl ⟨rfl, Nat.le_of_ble_eq_true rfl⟩) rfl rfl (by first | omega | (simp [hup]; omega)) (by first | omega | (simp [hup]; omega)) ?_
                          refine wq_aload_n (kk := 0) (q := 182) rfl rfl rfl ?_
                          refine wq_getF (q := 185) f_Mo_42 rfl rfl (Nat.le_of_ble_eq_true rfl) rfl rfl rfl ?_
                          refine wq_iload_n (kk := 2) (q := 186) rfl rfl rfl ?_
                          refine wq_iald (q := 187) rfl (Or.inl ⟨rfl, Nat.le_of_ble_eq_true rfl⟩) rfl rfl (by first | omega | (simp [hup]; omega)) (by first | omega | (simp [hup]; omega)) ?_
                          refine wq_icmp_lt (tgt := 210) (q := 190) rfl rfl rfl (fun c187 => ?_) (fun c187 => ?_)
                          · skip
                            refine wq_iconst (n := 0) (q := 211) rfl rfl rfl ?_
                            refine wq_zret rfl rfl (Nat.le_refl _) (Nat.le_refl _) (by omega) (pC_f (fun z => ?_))
                            refine z.2 o ⟨hdp (by omega), c58, by omega, c84⟩ c50 ?_
                            unfold Dm
                            omega
                          · skip
                            refine wq_aload_n (kk := 0) (q := 191) rfl rfl rfl ?_
                            refine wq_getF (q := 194) f_Mo_42 rfl rfl (Nat.le_of_ble_eq_true rfl) rfl rfl rfl ?_
                            refine wq_iload_n (kk := 3) (q := 195) rfl rfl rfl ?_
                            refine wq_iald (q := 196) rfl (Or.inl ⟨rfl, Nat.le_of_ble_eq_true rfl⟩) rfl rfl (by first | omega | (simp [hup]; omega)) (by first | omega | (simp [hup]; omega)) ?_
                            refine wq_aload_n (kk := 0) (q := 197) rfl rfl rfl ?_
                            refine wq_getF (q := 200) f_Mo_42 rfl rfl (Nat.le_of_ble_eq_true rfl) rfl rfl rfl ?_
                            refine wq_iload_n (kk := 2) (q := 201) rfl rfl rfl ?_
                            refine wq_iald (q := 202) rfl (Or.inl ⟨rfl, Nat.le_of_ble_eq_true rfl⟩) rfl rfl (by first | omega | (simp [hup]; omega)) (by first | omega | (simp [hup]; omega)) ?_
                            refine wq_icmp_ne (tgt := 212) (q := 205) rfl rfl rfl (fun c202 => ?_) (fun c202 => ?_)
                            · skip
                              refine wq_iinc (i := 3) (n := 1) (q := 215) rfl rfl rfl (Nat.le_of_ble_eq_true rfl) rfl (by first | omega | (simp [hup]; omega)) (by first | omega | (simp [hup]; omega)) ?_
                              refine wq_goto (tgt := 38) rfl rfl ?_
                              refine ih _ (by omega) (o + 1) _ _ rfl (by omega) (by omega) (fun g g0 g1 g2 g3 => ?_) (by first | rfl | exact p4)
                              by_cases e : g = o
                              · subst e
                                have y1 := g1.2.1
                                have y2 := g1.2.2.1
                                have y3 := g1.2.2.2
                                first
                                | exact absurd c50 g2
                                | exact absurd y1 c58
                                | (unfold Dm at g3; omega)
                              · exact hF g (by omega) g1 g2 g3
                            · skip
                              refine wq_iload_n (kk := 3) (q := 206) rfl rfl rfl ?_
                              refine wq_iload_n (kk := 2) (q := 207) rfl rfl rfl ?_
                              refine wq_icmp_ge (tgt := 212) (q := 210) rfl rfl rfl (fun c207 => ?_) (fun c207 => ?_)
                              · skip
                                refine wq_iinc (i := 3) (n := 1) (q := 215) rfl rfl rfl (Nat.le_of_ble_eq_true rfl) rfl (by first | omega | (simp [hup]; omega)) (by first | omega | (simp [hup]; omega)) ?_
                                refine wq_goto (tgt := 38) rfl rfl ?_
                                refine ih _ (by omega) (o + 1) _ _ rfl (by omega) (by omega) (fun g g0 g1 g2 g3 => ?_) (by first | rfl | exact p4)
                                by_cases e : g = o
                                · subst e
                                  have y1 := g1.2.1
                                  have y2 := g1.2.2.1
                                  have y3 := g1.2.2.2
                                  first
                                  | exact absurd c50 g2
                                  | exact absurd y1 c58
                                  | (unfold Dm at g3; omega)
                                · exact hF g (by omega) g1 g2 g3
                              · skip
                                refine wq_iconst (n := 0) (q := 211) rfl rfl rfl ?_
                                refine wq_zret rfl rfl (Nat.le_refl _) (Nat.le_refl _) (by omega) (pC_f (fun z => ?_))
                                refine z.2 o ⟨hdp (by omega), c58, by omega, c84⟩ c50 ?_
                                unfold Dm
                                omega
                      · skip
                        refine wq_iload (i := 5) (q := 167) rfl rfl rfl ?_
                        refine wq_if_eq (tgt := 210) (q := 170) rfl rfl rfl (fun c167 => ?_) (fun c167 => ?_)
                        · skip
                          refine wq_iconst (n := 0) (q := 211) rfl rfl rfl ?_
                          refine wq_zret rfl rfl (Nat.le_refl _) (Nat.le_refl _) (by omega) (pC_f (fun z => ?_))
                          refine z.2 o ⟨hdp (by omega), c58, by omega, c84⟩ c50 ?_
                          unfold Dm
                          omega
                        · skip
                          refine wq_iload (i := 5) (q := 172) rfl rfl rfl ?_
                          refine wq_if_eq (tgt := 212) (q := 175) rfl rfl rfl (fun c172 => ?_) (fun c172 => ?_)
                          · skip
                            refine wq_iinc (i := 3) (n := 1) (q := 215) rfl rfl rfl (Nat.le_of_ble_eq_true rfl) rfl (by first | omega | (simp [hup]; omega)) (by first | omega | (simp [hup]; omega)) ?_
                            refine wq_goto (tgt := 38) rfl rfl ?_
                            refine ih _ (by omega) (o + 1) _ _ rfl (by omega) (by omega) (fun g g0 g1 g2 g3 => ?_) (by first | rfl | exact p4)
                            by_cases e : g = o
                            · subst e
                              have y1 := g1.2.1
                              have y2 := g1.2.2.1
                              have y3 := g1.2.2.2
                              first
                              | exact absurd c50 g2
                              | exact absurd y1 c58
                              | (unfold Dm at g3; omega)
                            · exact hF g (by omega) g1 g2 g3
                          · skip
                            refine wq_aload_n (kk := 0) (q := 176) rfl rfl rfl ?_
                            refine wq_getF (q := 179) f_Mo_42 rfl rfl (Nat.le_of_ble_eq_true rfl) rfl rfl rfl ?_
                            refine wq_iload_n (kk := 3) (q := 180) rfl rfl rfl ?_
                            refine wq_iald (q := 181) rfl (Or.inl ⟨rfl, Nat.le_of_ble_eq_true rfl⟩) rfl rfl (by first | omega | (simp [hup]; omega)) (by first | omega | (simp [hup]; omega)) ?_
                            refine wq_aload_n (kk := 0) (q := 182) rfl rfl rfl ?_
                            refine wq_getF (q := 185) f_Mo_42 rfl rfl (Nat.le_of_ble_eq_true rfl) rfl rfl rfl ?_
                            refine wq_iload_n (kk := 2) (q := 186) rfl rfl rfl ?_
                            refine wq_iald (q := 187) rfl (Or.inl ⟨rfl, Nat.le_of_ble_eq_true rfl⟩) rfl rfl (by first | omega | (simp [hup]; omega)) (by first | omega | (simp [hup]; omega)) ?_
                            refine wq_icmp_lt (tgt := 210) (q := 190) rfl rfl rfl (fun c187 => ?_) (fun c187 => ?_)
                            · skip
                              refine wq_iconst (n := 0) (q := 211) rfl rfl rfl ?_
                              refine wq_zret rfl rfl (Nat.le_refl _) (Nat.le_refl _) (by omega) (pC_f (fun z => ?_))
                              refine z.2 o ⟨hdp (by omega), c58, by omega, c84⟩ c50 ?_
                              unfold Dm
                              omega
                            · skip
                              refine wq_aload_n (kk := 0) (q := 191) rfl rfl rfl ?_
                              refine wq_getF (q := 194) f_Mo_42 rfl rfl (Nat.le_of_ble_eq_true rfl) rfl rfl rfl ?_
                              refine wq_iload_n (kk := 3) (q := 195) rfl rfl rfl ?_
                              refine wq_iald (q := 196) rfl (Or.inl ⟨rfl, Nat.le_of_ble_eq_true rfl⟩) rfl rfl (by first | omega | (simp [hup]; omega)) (by first | omega | (simp [hup]; omega)) ?_
                              refine wq_aload_n (kk := 0) (q := 197) rfl rfl rfl ?_
                              refine wq_getF (q := 200) f_Mo_42 rfl rfl (Nat.le_of_ble_eq_true rfl) rfl rfl rfl ?_
                              refine wq_iload_n (kk := 2) (q := 201) rfl rfl rfl ?_
                              refine wq_iald (q := 202) rfl (Or.inl ⟨rfl, Nat.le_of_ble_eq_true rfl⟩) rfl rfl (by first | omega | (simp [hup]; omega)) (by first | omega | (simp [hup]; omega)) ?_
                              refine wq_icmp_ne (tgt := 212) (q := 205) rfl rfl rfl (fun c202 => ?_) (fun c202 => ?_)
                              · skip
                                refine wq_iinc (i := 3) (n := 1) (q := 215) rfl rfl rfl (Nat.le_of_ble_eq_true rfl) rfl (by first | omega | (simp [hup]; omega)) (by first | omega | (simp [hup]; omega)) ?_
                                refine wq_goto (tgt := 38) rfl rfl ?_
                                refine ih _ (by omega) (o + 1) _ _ rfl (by omega) (by omega) (fun g g0 g1 g2 g3 => ?_) (by first | rfl | exact p4)
                                by_cases e : g = o
                                · subst e
                                  have y1 := g1.2.1
                                  have y2 := g1.2.2.1
                                  have y3 := g1.2.2.2
                                  first
                                  | exact absurd c50 g2
                                  | exact absurd y1 c58
                                  | (unfold Dm at g3; omega)
                                · exact hF g (by omega) g1 g2 g3
                              · skip
                                refine wq_iload_n (kk := 3) (q := 206) rfl rfl rfl ?_
                                refine wq_iload_n (kk := 2) (q := 207) rfl rfl rfl ?_
                                refine wq_icmp_ge (tgt := 212) (q := 210) rfl rfl rfl (fun c207 => ?_) (fun c207 => ?_)
                                · skip
                                  refine wq_iinc (i := 3) (n := 1) (q := 215) rfl rfl rfl (Nat.le_of_ble_eq_true rfl) rfl (by first | omega | (simp [hup]; omega)) (by first | omega | (simp [hup]; omega)) ?_
                                  refine wq_goto (tgt := 38) rfl rfl ?_
                                  refine ih _ (by omega) (o + 1) _ _ rfl (by omega) (by omega) (fun g g0 g1 g2 g3 => ?_) (by first | rfl | exact p4)
                                  by_cases e : g = o
                                  · subst e
                                    have y1 := g1.2.1
                                    have y2 := g1.2.2.1
                                    have y3 := g1.2.2.2
                                    first
                                    | exact absurd c50 g2
                                    | exact absurd y1 c58
                                    | (unfold Dm at g3; omega)
                                  · exact hF g (by omega) g1 g2 g3
                                · skip
                                  refine wq_iconst (n := 0) (q := 211) rfl rfl rfl ?_
                                  refine wq_zret rfl rfl (Nat.le_refl _) (Nat.le_refl _) (by omega) (pC_f (fun z => ?_))
                                  refine z.2 o ⟨hdp (by omega), c58, by omega, c84⟩ c50 ?_
                                  unfold Dm
                                  omega
                    · skip
                      refine wq_iconst (n := 1) (q := 154) rfl rfl rfl ?_
                      refine wq_goto (tgt := 158) rfl rfl ?_
                      refine wq_istore (i := 5) (q := 160) rfl rfl (Nat.le_of_ble_eq_true rfl) rfl ?_
                      refine wq_iload (i := 4) (q := 162) rfl rfl rfl ?_
                      refine wq_if_eq (tgt := 170) (q := 165) rfl rfl rfl (fun c162 => ?_) (fun c162 => ?_)
                      · skip
                        refine wq_iload (i := 5) (q := 172) rfl rfl rfl ?_
                        refine wq_if_eq (tgt := 212) (q := 175) rfl rfl rfl (fun c172 => ?_) (fun c172 => ?_)
                        · skip
                          refine wq_iinc (i := 3) (n := 1) (q := 215) rfl rfl rfl (Nat.le_of_ble_eq_true rfl) rfl (by first | omega | (simp [hup]; omega)) (by first | omega | (simp [hup]; omega)) ?_
                          refine wq_goto (tgt := 38) rfl rfl ?_
                          refine ih _ (by omega) (o + 1) _ _ rfl (by omega) (by omega) (fun g g0 g1 g2 g3 => ?_) (by first | rfl | exact p4)
                          by_cases e : g = o
                          · subst e
                            have y1 := g1.2.1
                            have y2 := g1.2.2.1
                            have y3 := g1.2.2.2
                            first
                            | exact absurd c50 g2
                            | exact absurd y1 c58
                            | (unfold Dm at g3; omega)
                          · exact hF g (by omega) g1 g2 g3
                        · skip
                          refine wq_aload_n (kk := 0) (q := 176) rfl rfl rfl ?_
                          refine wq_getF (q := 179) f_Mo_42 rfl rfl (Nat.le_of_ble_eq_true rfl) rfl rfl rfl ?_
                          refine wq_iload_n (kk := 3) (q := 180) rfl rfl rfl ?_
                          refine wq_iald (q := 181) rfl (Or.inl ⟨rfl, Nat.le_of_ble_eq_true rfl⟩) rfl rfl (by first | omega | (simp [hup]; omega)) (by first | omega | (simp [hup]; omega)) ?_
                          refine wq_aload_n (kk := 0) (q := 182) rfl rfl rfl ?_
                          refine wq_getF (q := 185) f_Mo_42 rfl rfl (Nat.le_of_ble_eq_true rfl) rfl rfl rfl ?_
                          refine wq_iload_n (kk := 2) (q := 186) rfl rfl rfl ?_
                          refine wq_iald (q := 187) rfl (Or.inl ⟨rfl, Nat.le_of_ble_eq_true rfl⟩) rfl rfl (by first | omega | (simp [hup]; omega)) (by first | omega | (simp [hup]; omega)) ?_
                          refine wq_icmp_lt (tgt := 210) (q := 190) rfl rfl rfl (fun c187 => ?_) (fun c187 => ?_)
                          · skip
                            refine wq_iconst (n := 0) (q := 211) rfl rfl rfl ?_
                            refine wq_zret rfl rfl (Nat.le_refl _) (Nat.le_refl _) (by omega) (pC_f (fun z => ?_))
                            refine z.2 o ⟨hdp (by omega), c58, by omega, c84⟩ c50 ?_
                            unfold Dm
                            omega
                          · skip
                            refine wq_aload_n (kk := 0) (q := 191) rfl rfl rfl ?_
                            refine wq_getF (q := 194) f_Mo_42 rfl rfl (Nat.le_of_ble_eq_true rfl) rfl rfl rfl ?_
                            refine wq_iload_n (kk := 3) (q := 195) rfl rfl rfl ?_
                            refine wq_iald (q := 196) rfl (Or.inl ⟨rfl, Nat.le_of_ble_eq_true rfl⟩) rfl rfl (by first | omega | (simp [hup]; omega)) (by first | omega | (simp [hup]; omega)) ?_
                            refine wq_aload_n (kk := 0) (q := 197) rfl rfl rfl ?_
                            refine wq_getF (q := 200) f_Mo_42 rfl rfl (Nat.le_of_ble_eq_true rfl) rfl rfl rfl ?_
                            refine wq_iload_n (kk := 2) (q := 201) rfl rfl rfl ?_
                            refine wq_iald (q := 202) rfl (Or.inl ⟨rfl, Nat.le_of_ble_eq_true rfl⟩) rfl rfl (by first | omega | (simp [hup]; omega)) (by first | omega | (simp [hup]; omega)) ?_
                            refine wq_icmp_ne (tgt := 212) (q := 205) rfl rfl rfl (fun c202 => ?_) (fun c202 => ?_)
                            · skip
                              refine wq_iinc (i := 3) (n := 1) (q := 215) rfl rfl rfl (Nat.le_of_ble_eq_true rfl) rfl (by first | omega | (simp [hup]; omega)) (by first | omega | (simp [hup]; omega)) ?_
                              refine wq_goto (tgt := 38) rfl rfl ?_
                              refine ih _ (by omega) (o + 1) _ _ rfl (by omega) (by omega) (fun g g0 g1 g2 g3 => ?_) (by first | rfl | exact p4)
                              by_cases e : g = o
                              · subst e
                                have y1 := g1.2.1
                                have y2 := g1.2.2.1
                                have y3 := g1.2.2.2
                                first
                                | exact absurd c50 g2
                                | exact absurd y1 c58
                                | (unfold Dm at g3; omega)
                              · exact hF g (by omega) g1 g2 g3
                            · skip
                              refine wq_iload_n (kk := 3) (q := 206) rfl rfl rfl ?_
                              refine wq_iload_n (kk := 2) (q := 207) rfl rfl rfl ?_
                              refine wq_icmp_ge (tgt := 212) (q := 210) rfl rfl rfl (fun c207 => ?_) (fun c207 => ?_)
                              · skip
                                refine wq_iinc (i := 3) (n := 1) (q := 215) rfl rfl rfl (Nat.le_of_ble_eq_true rfl) rfl (by first | omega | (simp [hup]; omega)) (by first | omega | (simp [hup]; omega)) ?_
                                refine wq_goto (tgt := 38) rfl rfl ?_
                                refine ih _ (by omega) (o + 1) _ _ rfl (by omega) (by omega) (fun g g0 g1 g2 g3 => ?_) (by first | rfl | exact p4)
                                by_cases e : g = o
                                · subst e
                                  have y1 := g1.2.1
                                  have y2 := g1.2.2.1
                                  have y3 := g1.2.2.2
                                  first
                                  | exact absurd c50 g2
                                  | exact absurd y1 c58
                                  | (unfold Dm at g3; omega)
                                · exact hF g (by omega) g1 g2 g3
                              · skip
                                refine wq_iconst (n := 0) (q := 211) rfl rfl rfl ?_
                                refine wq_zret rfl rfl (Nat.le_refl _) (Nat.le_refl _) (by omega) (pC_f (fun z => ?_))
                                refine z.2 o ⟨hdp (by omega), c58, by omega, c84⟩ c50 ?_
                                unfold Dm
                                omega
                      · skip
                        refine wq_iload (i := 5) (q := 167) rfl rfl rfl ?_
                        refine wq_if_eq (tgt := 210) (q := 170) rfl rfl rfl (fun c167 => ?_) (fun c167 => ?_)
                        · skip
                          refine wq_iconst (n := 0) (q := 211) rfl rfl rfl ?_
                          refine wq_zret rfl rfl (Nat.le_refl _) (Nat.le_refl _) (by omega) (pC_f (fun z => ?_))
                          refine z.2 o ⟨hdp (by omega), c58, by omega, c84⟩ c50 ?_
                          unfold Dm
                          omega
                        · skip
                          refine wq_iload (i := 5) (q := 172) rfl rfl rfl ?_
                          refine wq_if_eq (tgt := 212) (q := 175) rfl rfl rfl (fun c172 => ?_) (fun c172 => ?_)
                          · skip
                            refine wq_iinc (i := 3) (n := 1) (q := 215) rfl rfl rfl (Nat.le_of_ble_eq_true rfl) rfl (by first | omega | (simp [hup]; omega)) (by first | omega | (simp [hup]; omega)) ?_
                            refine wq_goto (tgt := 38) rfl rfl ?_
                            refine ih _ (by omega) (o + 1) _ _ rfl (by omega) (by omega) (fun g g0 g1 g2 g3 => ?_) (by first | rfl | exact p4)
                            by_cases e : g = o
                            · subst e
                              have y1 := g1.2.1
                              have y2 := g1.2.2.1
                              have y3 := g1.2.2.2
                              first
                              | exact absurd c50 g2
                              | exact absurd y1 c58
                              | (unfold Dm at g3; omega)
                            · exact hF g (by omega) g1 g2 g3
                          · skip
                            refine wq_aload_n (kk := 0) (q := 176) rfl rfl rfl ?_
                            refine wq_getF (q := 179) f_Mo_42 rfl rfl (Nat.le_of_ble_eq_true rfl) rfl rfl rfl ?_
                            refine wq_iload_n (kk := 3) (q := 180) rfl rfl rfl ?_
                            refine wq_iald (q := 181) rfl (Or.inl ⟨rfl, Nat.le_of_ble_eq_true rfl⟩) rfl rfl (by first | omega | (simp [hup]; omega)) (by first | omega | (simp [hup]; omega)) ?_
                            refine wq_aload_n (kk := 0) (q := 182) rfl rfl rfl ?_
                            refine wq_getF (q := 185) f_Mo_42 rfl rfl (Nat.le_of_ble_eq_true rfl) rfl rfl rfl ?_
                            refine wq_iload_n (kk := 2) (q := 186) rfl rfl rfl ?_
                            refine wq_iald (q := 187) rfl (Or.inl ⟨rfl, Nat.le_of_ble_eq_true rfl⟩) rfl rfl (by first | omega | (simp [hup]; omega)) (by first | omega | (simp [hup]; omega)) ?_
                            refine wq_icmp_lt (tgt := 210) (q := 190) rfl rfl rfl (fun c187 => ?_) (fun c187 => ?_)
                            · skip
                              refine wq_iconst (n := 0) (q := 211) rfl rfl rfl ?_
                              refine wq_zret rfl rfl (Nat.le_refl _) (Nat.le_refl _) (by omega) (pC_f (fun z => ?_))
                              refine z.2 o ⟨hdp (by omega), c58, by omega, c84⟩ c50 ?_
                              unfold Dm
                              omega
                            · skip
                              refine wq_aload_n (kk := 0) (q := 191) rfl rfl rfl ?_
                              refine wq_getF (q := 194) f_Mo_42 rfl rfl (Nat.le_of_ble_eq_true rfl) rfl rfl rfl ?_
                              refine wq_iload_n (kk := 3) (q := 195) rfl rfl rfl ?_
                              refine wq_iald (q := 196) rfl (Or.inl ⟨rfl, Nat.le_of_ble_eq_true rfl⟩) rfl rfl (by first | omega | (simp [hup]; omega)) (by first | omega | (simp [hup]; omega)) ?_
                              refine wq_aload_n (kk := 0) (q := 197) rfl rfl rfl ?_
                              refine wq_getF (q := 200) f_Mo_42 rfl rfl (Nat.le_of_ble_eq_true rfl) rfl rfl rfl ?_
                              refine wq_iload_n (kk := 2) (q := 201) rfl rfl rfl ?_
                              refine wq_iald (q := 202) rfl (Or.inl ⟨rfl, Nat.le_of_ble_eq_true rfl⟩) rfl rfl (by first | omega | (simp [hup]; omega)) (by first | omega | (simp [hup]; omega)) ?_
                              refine wq_icmp_ne (tgt := 212) (q := 205) rfl rfl rfl (fun c202 => ?_) (fun c202 => ?_)
                              · skip
                                refine wq_iinc (i := 3) (n := 1) (q := 215) rfl rfl rfl (Nat.le_of_ble_eq_true rfl) rfl (by first | omega | (simp [hup]; omega)) (by first | omega | (simp [hup]; omega)) ?_
                                refine wq_goto (tgt := 38) rfl rfl ?_
                                refine ih _ (by omega) (o + 1) _ _ rfl (by omega) (by omega) (fun g g0 g1 g2 g3 => ?_) (by first | rfl | exact p4)
                                by_cases e : g = o
                                · subst e
                                  have y1 := g1.2.1
                                  have y2 := g1.2.2.1
                                  have y3 := g1.2.2.2
                                  first
                                  | exact absurd c50 g2
                                  | exact absurd y1 c58
                                  | (unfold Dm at g3; omega)
                                · exact hF g (by omega) g1 g2 g3
                              · skip
                                refine wq_iload_n (kk := 3) (q := 206) rfl rfl rfl ?_
                                refine wq_iload_n (kk := 2) (q := 207) rfl rfl rfl ?_
                                refine wq_icmp_ge (tgt := 212) (q := 210) rfl rfl rfl (fun c207 => ?_) (fun c207 => ?_)
                                · skip
                                  refine wq_iinc (i := 3) (n := 1) (q := 215) rfl rfl rfl (Nat.le_of_ble_eq_true rfl) rfl (by first | omega | (simp [hup]; omega)) (by first | omega | (simp [hup]; omega)) ?_
                                  refine wq_goto (tgt := 38) rfl rfl ?_
                                  refine ih _ (by omega) (o + 1) _ _ rfl (by omega) (by omega) (fun g g0 g1 g2 g3 => ?_) (by first | rfl | exact p4)
                                  by_cases e : g = o
                                  · subst e
                                    have y1 := g1.2.1
                                    have y2 := g1.2.2.1
                                    have y3 := g1.2.2.2
                                    first
                                    | exact absurd c50 g2
                                    | exact absurd y1 c58
                                    | (unfold Dm at g3; omega)
                                  · exact hF g (by omega) g1 g2 g3
                                · skip
                                  refine wq_iconst (n := 0) (q := 211) rfl rfl rfl ?_
                                  refine wq_zret rfl rfl (Nat.le_refl _) (Nat.le_refl _) (by omega) (pC_f (fun z => ?_))
                                  refine z.2 o ⟨hdp (by omega), c58, by omega, c84⟩ c50 ?_
                                  unfold Dm
                                  omega
            · skip
              refine wq_goto (tgt := 212) rfl rfl ?_
              refine wq_iinc (i := 3) (n := 1) (q := 215) rfl rfl rfl (Nat.le_of_ble_eq_true rfl) rfl (by first | omega | (simp [hup]; omega)) (by first | omega | (simp [hup]; omega)) ?_
              refine wq_goto (tgt := 38) rfl rfl ?_
              refine ih _ (by omega) (o + 1) _ _ rfl (by omega) (by omega) (fun g g0 g1 g2 g3 => ?_) (by first | rfl | exact p4)
              by_cases e : g = o
              · subst e
                have y1 := g1.2.1
                have y2 := g1.2.2.1
                have y3 := g1.2.2.2
                first
                | exact absurd c50 g2
                | exact absurd y1 c58
                | (unfold Dm at g3; omega)
              · exact hF g (by omega) g1 g2 g3
set_option maxRecDepth 100000 in
set_option maxHeartbeats 1000000 in
theorem Mo_beginsStep_ok (N : mN) (a d : Int) (h : mH) (r : mR) (hM : isM h N) (hd : dp N d) : Meets true (rm 3) m_Mo_beginsStep [vR 64, vI a, vI d] h r (pI (bI (Bs N a (h 73) (h 74) d)) h r) := by
  have hn := hM.1.1
  have hd0 := hd.1
  have hd1 := hd.2
  have hfo := (hM.2.2.2.1 d hd).2.2.1
  refine ⟨ok_Mo_beginsStep, Nat.le_of_ble_eq_true rfl, ?_⟩
  refine wq_aload_n (kk := 0) (q := 1) rfl rfl rfl ?_
  refine wq_iload_n (kk := 2) (q := 2) rfl rfl rfl ?_
  refine wq_callV (q := 5) (m' := m_Mo_runs) (R' := rm 2) (As := [_]) rfl rfl l_Mo_253 vm_Mo_runs rfl rfl rfl (Or.inl ⟨rfl, Nat.le_of_ble_eq_true rfl⟩) (Nat.le_of_ble_eq_true rfl) (Nat.le_of_ble_eq_true rfl) (Nat.le_refl _) (Nat.le_refl _) (Nat.le_of_ble_eq_true rfl) (Mo_runs_ok N d h r hM hd) rfl ?_
  rintro rv h r ⟨rfl, rfl, rfl⟩ -
  refine wq_cif_eq (tgt := 34) (q := 8) rfl rfl rfl (fun c5 => ?_) (fun c5 => ?_)
  · skip
    refine wq_iconst (n := 0) (q := 35) rfl rfl rfl ?_
    refine wq_zret rfl rfl (Nat.le_refl _) (Nat.le_refl _) (by omega) (pC_f (fun z => ?_))
    have y1 := z.1.2.1
    have y2 := z.1.2.2.1
    have y3 := z.1.2.2.2
    first | exact absurd y1 c5 | omega
  · skip
    refine wq_aload_n (kk := 0) (q := 9) rfl rfl rfl ?_
    refine wq_getF (q := 12) f_Mo_17 rfl rfl (Nat.le_of_ble_eq_true rfl) rfl rfl rfl ?_
    refine wq_iload_n (kk := 2) (q := 13) rfl rfl rfl ?_
    refine wq_iconst (n := 1) (q := 14) rfl rfl rfl ?_
    refine wq_callS (q := 17) (m' := m_Mo_at) (R' := rm 1) (As := [_, _]) rfl rfl l_Mo_209 sm_Mo_at rfl (Nat.le_of_ble_eq_true rfl) (Nat.le_of_ble_eq_true rfl) (Nat.le_refl _) (Nat.le_refl _) (Nat.le_of_ble_eq_true rfl) (Mo_at_ok d 1 h r (by omega) (by omega)) rfl ?_
    rintro rv h r ⟨rfl, rfl, rfl⟩ -
    refine wq_iald (q := 18) rfl (Or.inl ⟨rfl, Nat.le_of_ble_eq_true rfl⟩) rfl rfl (by first | omega | (simp [hup]; omega)) (by first | omega | (simp [hup]; omega)) ?_
    refine wq_iload_n (kk := 1) (q := 19) rfl rfl rfl ?_
    refine wq_icmp_ne (tgt := 34) (q := 22) rfl rfl rfl (fun c19 => ?_) (fun c19 => ?_)
    · skip
      refine wq_iconst (n := 0) (q := 35) rfl rfl rfl ?_
      refine wq_zret rfl rfl (Nat.le_refl _) (Nat.le_refl _) (by omega) (pC_f (fun z => ?_))
      have y1 := z.1.2.1
      have y2 := z.1.2.2.1
      have y3 := z.1.2.2.2
      first | exact absurd y1 c5 | omega
    · skip
      refine wq_aload_n (kk := 0) (q := 23) rfl rfl rfl ?_
      refine wq_getF (q := 26) f_Mo_39 rfl rfl (Nat.le_of_ble_eq_true rfl) rfl rfl rfl ?_
      refine wq_iload_n (kk := 2) (q := 27) rfl rfl rfl ?_
      refine wq_iald (q := 28) rfl (Or.inl ⟨rfl, Nat.le_of_ble_eq_true rfl⟩) rfl rfl (by first | omega | (simp [hup]; omega)) (by first | omega | (simp [hup]; omega)) ?_
      refine wq_sipush (n := 9999) (q := 31) rfl rfl rfl ?_
      refine wq_icmp_ne (tgt := 36) (q := 34) rfl rfl rfl (fun c31 => ?_) (fun c31 => ?_)
      · skip
        refine wq_iconst (n := 0) (q := 37) rfl rfl rfl ?_
        refine wq_istore_n (kk := 3) (q := 38) rfl rfl (Nat.le_of_ble_eq_true rfl) rfl ?_
        exact Mo_beginsStepL N a d h r hM ⟨hd, c5, by omega, c31⟩ _ 0 none none rfl (by omega) (by omega) (fun g g0 g1 => by have := g1.1.1; omega) rfl
      · skip
        refine wq_iconst (n := 0) (q := 35) rfl rfl rfl ?_
        refine wq_zret rfl rfl (Nat.le_refl _) (Nat.le_refl _) (by omega) (pC_f (fun z => ?_))
        have y1 := z.1.2.1
        have y2 := z.1.2.2.1
        have y3 := z.1.2.2.2
        first | exact absurd y1 c5 | omega
abbrev steC : List Nat := [64, 73, 74, 75, 76, 77, 81, 82, 83]
/-- the steps so far: those of the sorted ones behind i -/
def SsI (N : mN) (a : Int) (e t : mF) (o : mF) (m i c : Int) (sl sa sc : mF) : Prop := (0 ≤ c ∧ c ≤ m - 1 - i) ∧ (∀ k, 0 ≤ k → k < c → ∃ q, i < q ∧ q < m ∧ Bs N a e t (o q) ∧ lv N (o q) = sl k ∧ e (o q) = sa k ∧ t (o q) = sc k) ∧ (∀ k j, 0 ≤ k → k < j → j < c → sl k < sl j ∧ sa k < sa j) ∧ ∀ q, i < q → q < m → Bs N a e t (o q) → ∃ k, 0 ≤ k ∧ k < c ∧ lv N (o q) = sl k ∧ e (o q) = sa k ∧ t (o q) = sc k
theorem SsI.n {N : mN} {a : Int} {e t o : mF} {m i c : Int} {sl sa sc : mF} (h : SsI N a e t o m i c sl sa sc) (hn : ¬ Bs N a e t (o i)) : SsI N a e t o m (i - 1) c sl sa sc := by
  obtain ⟨a1, a2, a3, a4⟩ := h
  refine ⟨by omega, fun k k0 k1 => ?_, a3, fun q q0 q1 q2 => ?_⟩
  · obtain ⟨q, q0, q1⟩ := a2 k k0 k1
    exact ⟨q, by omega, q1⟩
  · by_cases e' : q = i
    · subst e'; exact absurd q2 hn
    · exact a4 q (by omega) q1 q2
theorem SsI.y {N : mN} {a : Int} {e t o : mF} {m i c : Int} {sl sa sc sl' sa' sc' : mF} (hS : Sr N o m (nN N)) (i0 : 0 ≤ i) (i1 : i < m) (h : SsI N a e t o m i c sl sa sc) (hB : Bs N a e t (o i)) (u1 : sl' c = lv N (o i)) (u2 : sa' c = e (o i)) (u3 : sc' c = t (o i)) (hu : ∀ k, k ≠ c → sl' k = sl k ∧ sa' k = sa k ∧ sc' k = sc k) : SsI N a e t o m (i - 1) (c + 1) sl' sa' sc' := by
  obtain ⟨a1, a2, a3, a4⟩ := h
  refine ⟨by omega, fun k k0 k1 => ?_, fun k j k0 kj j1 => ?_, fun q q0 q1 q2 => ?_⟩
  · by_cases e' : k = c
    · subst e'; exact ⟨i, by omega, i1, hB, u1.symm, u2.symm, u3.symm⟩
    · obtain ⟨q, q0, q1, q2, q3, q4, q5⟩ := a2 k k0 (by omega)
      obtain ⟨w1, w2, w3⟩ := hu k e'
      exact ⟨q, by omega, q1, q2, by rw [w1]; exact q3, by rw [w2]; exact q4, by rw [w3]; exact q5⟩
  · obtain ⟨w1, w2, w3⟩ := hu k (by omega)
    by_cases e' : j = c
    · subst e'
      obtain ⟨q, q0, q1, q2, q3, q4, q5⟩ := a2 k k0 kj
      have hne := (hS.2.2.1 i q i0 q0 q1)
      have := q2.lt hB (fun z => hne.2 z.symm) hne.1
      omega
    · obtain ⟨y1, y2, y3⟩ := hu j e'
      have := a3 k j k0 kj (by omega)
      omega
  · by_cases e' : q = i
    · subst e'; exact ⟨c, by omega, by omega, u1.symm, u2.symm, u3.symm⟩
    · obtain ⟨k, k0, k1, k2, k3, k4⟩ := a4 q (by omega) q1 q2
      obtain ⟨w1, w2, w3⟩ := hu k (by omega)
      exact ⟨k, k0, by omega, by rw [w1]; exact k2, by rw [w2]; exact k3, by rw [w3]; exact k4⟩
/-- the steps are laid -/
def stpR (N : mN) (a b : Int) (h : mH) : Prop := (0 ≤ h 64 36 ∧ h 64 36 ≤ 120) ∧ Sps N a b (h 64 36) (h 81) (h 82) (h 83) ∧ ∀ k, 0 ≤ k → k < h 64 36 → (0 ≤ h 81 k ∧ h 81 k ≤ 1500) ∧ 0 ≤ h 82 k ∧ h 82 k ≤ 1700
theorem SsI.fin {N : mN} (hV : NV N) {a b : Int} {h : mH} (hG : goal N b h) (hS : SsI N a (h 73) (h 74) (h 77) (h 64 28) (-1) (h 64 36) (h 81) (h 82) (h 83)) : stpR N a b h := by
  obtain ⟨a1, a2, a3, a4⟩ := hS
  have hm := hG.2.2.1
  have hn := hV.1
  have hb : ∀ d, Pa N 9999 (h 73) a d → (0 ≤ h 73 d ∧ h 73 d ≤ 1700) ∧ 0 ≤ h 74 d ∧ h 74 d ≤ 120 := fun d hd => by
    have := (hG.2.1 d hd.1 hd.2.1).resolve_left hd.2.2.2
    omega
  refine ⟨by omega, ⟨9999, h 73, h 74, h 75, h 76, hG.1, by decide, a1.1, fun k k0 k1 => ?_, a3, fun d _ hd => ?_⟩, fun k k0 k1 => ?_⟩
  · obtain ⟨q, q0, q1, q2, q3⟩ := a2 k k0 k1
    exact ⟨h 77 q, trivial, q2.1, q3⟩
  · obtain ⟨o, o1, o2, o3, o4⟩ := Bs.cover hV hb _ d hd rfl
    obtain ⟨q, q0, q1, rfl⟩ := hG.2.2.2.2.2 o o1.1.1.1 o1.1.1.2 o1.1.2.1
    obtain ⟨k, k0, k1, k2, k3, k4⟩ := a4 q (by omega) q1 o1
    refine ⟨k, k0, k1, by omega, by omega, fun y1 y2 => ?_⟩
    have := o4 (by omega) (by omega)
    omega
  · obtain ⟨q, q0, q1, q2, q3, q4, q5⟩ := a2 k k0 k1
    have := hV.2.2.1 _ q2.1.1
    have := hb _ q2.1
    omega
set_option maxRecDepth 100000 in
set_option maxHeartbeats 1000000 in
theorem Mo_laysStepsL (N : mN) (a b : Int) (h : mH) (r : mR) (hM : isM h N) : ∀ (M : Nat) (i : Int) (h1 : mH) (x4 : Option mV), (i + 1).toNat = M → -1 ≤ i → i < h1 64 28 → f64 [28, 36] steC h h1 → goal N b h1 → SsI N a (h1 73) (h1 74) (h1 77) (h1 64 28) i (h1 64 36) (h1 81) (h1 82) (h1 83) → WP (true, rm 7) m_Mo_laysSteps (rt m_Mo_laysSteps (rm 7) (fun rv h2 r2 => rv = none ∧ r2 = r ∧ f64 [28, 36] steC h h2 ∧ stpR N a b h2)) 17 [some (vR 64), some (vI a), some (vI b), some (vI i), x4] [] h1 r (0, 0) := by
  intro M
  induction M using Nat.strongRecOn with
  | ind M ih =>
    intro i h1 x4 hN i0 i1 hf hG hS
    have hV := hM.1
    have hn := hV.1
    have hM1 := isM_f hM hf.1 (by decide)
    have hm := hG.2.2.1
    have hc := hS.1
    have hd : 0 ≤ i → (0 ≤ h1 77 i ∧ h1 77 i < nN N) ∧ rn N (h1 77 i) = 1 := fun z => hG.2.2.2.1 i z i1
    refine wq_iload_n (kk := 3) (q := 18) rfl rfl rfl ?_
    refine wq_if_lt (tgt := 102) (q := 21) rfl rfl rfl (fun c18 => ?_) (fun c18 => ?_)
    · skip
      have ei : i = -1 := by omega
      subst ei
      exact wq_vret rfl rfl (Nat.le_refl _) (Nat.le_refl _) ⟨rfl, rfl, hf, SsI.fin hV hG hS⟩
    · skip
      refine wq_aload_n (kk := 0) (q := 22) rfl rfl rfl ?_
      refine wq_getF (q := 25) f_Mo_51 rfl rfl (Nat.le_of_ble_eq_true rfl) rfl rfl rfl ?_
      refine wq_iload_n (kk := 3) (q := 26) rfl rfl rfl ?_
      refine wq_iald (q := 27) rfl (Or.inl ⟨rfl, Nat.le_of_ble_eq_true rfl⟩) rfl rfl (by first | omega | (have := (hd (by omega)).1; omega) | (simp [hup]; have := (hd (by omega)).1; omega)) (by first | omega | (have := (hd (by omega)).1; omega) | (simp [hup]; have := (hd (by omega)).1; omega)) ?_
      refine wq_istore (i := 4) (q := 29) rfl rfl (Nat.le_of_ble_eq_true rfl) rfl ?_
      refine wq_aload_n (kk := 0) (q := 30) rfl rfl rfl ?_
      refine wq_iload_n (kk := 1) (q := 31) rfl rfl rfl ?_
      refine wq_iload (i := 4) (q := 33) rfl rfl rfl ?_
      refine wq_callV (q := 36) (m' := m_Mo_beginsStep) (R' := rm 3) (As := [_, _]) rfl rfl l_Mo_339 vm_Mo_beginsStep rfl rfl rfl (Or.inl ⟨rfl, Nat.le_of_ble_eq_true rfl⟩) (Nat.le_of_ble_eq_true rfl) (Nat.le_of_ble_eq_true rfl) (Nat.le_refl _) (Nat.le_refl _) (Nat.le_of_ble_eq_true rfl) (Mo_beginsStep_ok N a (h1 77 i) h1 r hM1 (hd (by omega)).1) rfl ?_
      rintro rv h1 r ⟨rfl, rfl, rfl⟩ -
      refine wq_cif_eq (tgt := 96) (q := 39) rfl rfl rfl (fun c36 => ?_) (fun c36 => ?_)
      · skip
        refine wq_iinc (i := 3) (n := -1) (q := 99) rfl rfl rfl (Nat.le_of_ble_eq_true rfl) rfl (by first | omega | (have := (hd (by omega)).1; omega) | (simp [hup]; have := (hd (by omega)).1; omega)) (by first | omega | (have := (hd (by omega)).1; omega) | (simp [hup]; have := (hd (by omega)).1; omega)) ?_
        refine wq_goto (tgt := 17) rfl rfl ?_
        rw [show i + -1 = i - 1 by omega]
        first
        | exact ih _ (by omega) (i - 1) _ _ rfl (by omega) (by omega) hf hG (hS.n c36)
        | (have g : ∀ c, c ∈ [73, 74, 75, 76, 77] → ∀ A B C D, hup (hup (hup (hup h1 81 (h1 64 36) A) 82 (h1 64 36) B) 83 (h1 64 36) C) 64 36 D c = h1 c := fun c hc A B C D => by
             funext j
             have h4 : c = 73 ∨ c = 74 ∨ c = 75 ∨ c = 76 ∨ c = 77 := by simpa using hc
             rw [hup_i (by omega), hup_i (by omega), hup_i (by omega), hup_i (by omega)]
           have e28 : ∀ A B C D, hup (hup (hup (hup h1 81 (h1 64 36) A) 82 (h1 64 36) B) 83 (h1 64 36) C) 64 36 D 64 28 = h1 64 28 := fun A B C D => by rw [hup_j (by decide), hup_i (by decide), hup_i (by decide), hup_i (by decide)]
           refine ih _ (by omega) (i - 1) _ _ rfl (by omega) (by rw [e28]; omega) ((((hf.uc (by decide) (by decide)).uc (by decide) (by decide)).uc (by decide) (by decide)).up (by decide) (by decide)) ?_ ?_
           · unfold goal lb
             rw [g 73 (by decide), g 74 (by decide), g 75 (by decide), g 76 (by decide), g 77 (by decide), e28]
             exact hG
           · rw [g 73 (by decide), g 74 (by decide), g 77 (by decide), e28, hup_s]
             refine hS.y hG.2.2 (by omega) i1 c36 ?_ ?_ ?_ (fun k hk => ⟨?_, ?_, ?_⟩)
             · rw [hup_i (by decide), hup_i (by decide), hup_i (by decide), hup_s]
             · rw [hup_i (by decide), hup_i (by decide), hup_s]
             · rw [hup_i (by decide), hup_s]
             · rw [hup_i (by decide), hup_i (by decide), hup_i (by decide), hup_j hk]
             · rw [hup_i (by decide), hup_i (by decide), hup_j hk, hup_i (by decide)]
             · rw [hup_i (by decide), hup_j hk, hup_i (by decide), hup_i (by decide)])
      · skip
        refine wq_aload_n (kk := 0) (q := 40) rfl rfl rfl ?_
        refine wq_getF (q := 43) f_Mo_63 rfl rfl (Nat.le_of_ble_eq_true rfl) rfl rfl rfl ?_
        refine wq_aload_n (kk := 0) (q := 44) rfl rfl rfl ?_
        refine wq_getI (kz := 36) (q := 47) rfl f_Mo_336 rfl rfl (Or.inl ⟨rfl, Nat.le_of_ble_eq_true rfl⟩) rfl rfl ?_
        refine wq_aload_n (kk := 0) (q := 48) rfl rfl rfl ?_
        refine wq_iload (i := 4) (q := 50) rfl rfl rfl ?_
        refine wq_callV (q := 53) (m' := m_Mo_leavesAt) (R' := rm 2) (As := [_]) rfl rfl l_Mo_250 vm_Mo_leavesAt rfl rfl rfl (Or.inl ⟨rfl, Nat.le_of_ble_eq_true rfl⟩) (Nat.le_of_ble_eq_true rfl) (Nat.le_of_ble_eq_true rfl) (Nat.le_refl _) (Nat.le_refl _) (Nat.le_of_ble_eq_true rfl) (Mo_leavesAt_ok N (h1 77 i) h1 r hM1 (hd (by omega)).1) rfl ?_
        rintro rv h1 r ⟨rfl, rfl, rfl⟩ -
        refine wq_iast (q := 54) rfl (Or.inl ⟨rfl, Nat.le_of_ble_eq_true rfl⟩) rfl rfl (by first | omega | (have := (hd (by omega)).1; omega) | (simp [hup]; have := (hd (by omega)).1; omega)) (by first | omega | (have := (hd (by omega)).1; omega) | (simp [hup]; have := (hd (by omega)).1; omega)) ?_
        refine wq_aload_n (kk := 0) (q := 55) rfl rfl rfl ?_
        refine wq_getF (q := 58) f_Mo_66 rfl rfl (Nat.le_of_ble_eq_true rfl) rfl rfl rfl ?_
        refine wq_aload_n (kk := 0) (q := 59) rfl rfl rfl ?_
        refine wq_getI (kz := 36) (q := 62) rfl f_Mo_336 rfl rfl (Or.inl ⟨rfl, Nat.le_of_ble_eq_true rfl⟩) rfl rfl ?_
        refine wq_aload_n (kk := 0) (q := 63) rfl rfl rfl ?_
        refine wq_getF (q := 66) f_Mo_39 rfl rfl (Nat.le_of_ble_eq_true rfl) rfl rfl rfl ?_
        refine wq_iload (i := 4) (q := 68) rfl rfl rfl ?_
        refine wq_iald (q := 69) rfl (Or.inl ⟨rfl, Nat.le_of_ble_eq_true rfl⟩) rfl rfl (by first | omega | (have := (hd (by omega)).1; omega) | (simp [hup]; have := (hd (by omega)).1; omega)) (by first | omega | (have := (hd (by omega)).1; omega) | (simp [hup]; have := (hd (by omega)).1; omega)) ?_
        rw [show ∀ A, hup h1 81 (h1 64 36) A 64 36 = h1 64 36 from fun A => hup_i (by decide), show ∀ A, hup h1 81 (h1 64 36) A 73 (h1 77 i) = h1 73 (h1 77 i) from fun A => hup_i (by decide)]
        refine wq_iast (q := 70) rfl (Or.inl ⟨rfl, Nat.le_of_ble_eq_true rfl⟩) rfl rfl (by first | omega | (have := (hd (by omega)).1; omega) | (simp [hup]; have := (hd (by omega)).1; omega)) (by first | omega | (have := (hd (by omega)).1; omega) | (simp [hup]; have := (hd (by omega)).1; omega)) ?_
        refine wq_aload_n (kk := 0) (q := 71) rfl rfl rfl ?_
        refine wq_getF (q := 74) f_Mo_69 rfl rfl (Nat.le_of_ble_eq_true rfl) rfl rfl rfl ?_
        refine wq_aload_n (kk := 0) (q := 75) rfl rfl rfl ?_
        refine wq_getI (kz := 36) (q := 78) rfl f_Mo_336 rfl rfl (Or.inl ⟨rfl, Nat.le_of_ble_eq_true rfl⟩) rfl rfl ?_
        refine wq_aload_n (kk := 0) (q := 79) rfl rfl rfl ?_
        refine wq_getF (q := 82) f_Mo_42 rfl rfl (Nat.le_of_ble_eq_true rfl) rfl rfl rfl ?_
        refine wq_iload (i := 4) (q := 84) rfl rfl rfl ?_
        refine wq_iald (q := 85) rfl (Or.inl ⟨rfl, Nat.le_of_ble_eq_true rfl⟩) rfl rfl (by first | omega | (have := (hd (by omega)).1; omega) | (simp [hup]; have := (hd (by omega)).1; omega)) (by first | omega | (have := (hd (by omega)).1; omega) | (simp [hup]; have := (hd (by omega)).1; omega)) ?_
        rw [show ∀ A B, hup (hup h1 81 (h1 64 36) A) 82 (h1 64 36) B 64 36 = h1 64 36 from fun A B => by rw [hup_i (by decide), hup_i (by decide)], show ∀ A B, hup (hup h1 81 (h1 64 36) A) 82 (h1 64 36) B 74 (h1 77 i) = h1 74 (h1 77 i) from fun A B => by rw [hup_i (by decide), hup_i (by decide)]]
        refine wq_iast (q := 86) rfl (Or.inl ⟨rfl, Nat.le_of_ble_eq_true rfl⟩) rfl rfl (by first | omega | (have := (hd (by omega)).1; omega) | (simp [hup]; have := (hd (by omega)).1; omega)) (by first | omega | (have := (hd (by omega)).1; omega) | (simp [hup]; have := (hd (by omega)).1; omega)) ?_
        refine wq_aload_n (kk := 0) (q := 87) rfl rfl rfl ?_
        refine wq_dup (q := 88) rfl rfl rfl ?_
        refine wq_getI (kz := 36) (q := 91) rfl f_Mo_336 rfl rfl (Or.inl ⟨rfl, Nat.le_of_ble_eq_true rfl⟩) rfl rfl ?_
        refine wq_iconst (n := 1) (q := 92) rfl rfl rfl ?_
        refine wq_iadd (q := 93) rfl rfl (by first | omega | (have := (hd (by omega)).1; omega) | (simp [hup]; have := (hd (by omega)).1; omega)) (by first | omega | (have := (hd (by omega)).1; omega) | (simp [hup]; have := (hd (by omega)).1; omega)) ?_
        rw [show ∀ A B C, hup (hup (hup h1 81 (h1 64 36) A) 82 (h1 64 36) B) 83 (h1 64 36) C 64 36 = h1 64 36 from fun A B C => by rw [hup_i (by decide), hup_i (by decide), hup_i (by decide)]]
        refine wq_putI (kz := 36) (q := 96) rfl f_Mo_336 rfl rfl rfl (Or.inl ⟨rfl, Nat.le_of_ble_eq_true rfl⟩) rfl rfl ?_
        refine wq_iinc (i := 3) (n := -1) (q := 99) rfl rfl rfl (Nat.le_of_ble_eq_true rfl) rfl (by first | omega | (have := (hd (by omega)).1; omega) | (simp [hup]; have := (hd (by omega)).1; omega)) (by first | omega | (have := (hd (by omega)).1; omega) | (simp [hup]; have := (hd (by omega)).1; omega)) ?_
        refine wq_goto (tgt := 17) rfl rfl ?_
        rw [show i + -1 = i - 1 by omega]
        first
        | exact ih _ (by omega) (i - 1) _ _ rfl (by omega) (by omega) hf hG (hS.n c36)
        | (have g : ∀ c, c ∈ [73, 74, 75, 76, 77] → ∀ A B C D, hup (hup (hup (hup h1 81 (h1 64 36) A) 82 (h1 64 36) B) 83 (h1 64 36) C) 64 36 D c = h1 c := fun c hc A B C D => by
             funext j
             have h4 : c = 73 ∨ c = 74 ∨ c = 75 ∨ c = 76 ∨ c = 77 := by simpa using hc
             rw [hup_i (by omega), hup_i (by omega), hup_i (by omega), hup_i (by omega)]
           have e28 : ∀ A B C D, hup (hup (hup (hup h1 81 (h1 64 36) A) 82 (h1 64 36) B) 83 (h1 64 36) C) 64 36 D 64 28 = h1 64 28 := fun A B C D => by rw [hup_j (by decide), hup_i (by decide), hup_i (by decide), hup_i (by decide)]
           refine ih _ (by omega) (i - 1) _ _ rfl (by omega) (by rw [e28]; omega) ((((hf.uc (by decide) (by decide)).uc (by decide) (by decide)).uc (by decide) (by decide)).up (by decide) (by decide)) ?_ ?_
           · unfold goal lb
             rw [g 73 (by decide), g 74 (by decide), g 75 (by decide), g 76 (by decide), g 77 (by decide), e28]
             exact hG
           · rw [g 73 (by decide), g 74 (by decide), g 77 (by decide), e28, hup_s]
             refine hS.y hG.2.2 (by omega) i1 c36 ?_ ?_ ?_ (fun k hk => ⟨?_, ?_, ?_⟩)
             · rw [hup_i (by decide), hup_i (by decide), hup_i (by decide), hup_s]
             · rw [hup_i (by decide), hup_i (by decide), hup_s]
             · rw [hup_i (by decide), hup_s]
             · rw [hup_i (by decide), hup_i (by decide), hup_i (by decide), hup_j hk]
             · rw [hup_i (by decide), hup_i (by decide), hup_j hk, hup_i (by decide)]
             · rw [hup_i (by decide), hup_j hk, hup_i (by decide), hup_i (by decide)])
set_option maxRecDepth 100000 in
set_option maxHeartbeats 1000000 in
theorem Mo_laysSteps_ok (N : mN) (a b : Int) (h : mH) (r : mR) (hM : isM h N) : Meets true (rm 7) m_Mo_laysSteps [vR 64, vI a, vI b] h r (fun rv h2 r2 => rv = none ∧ r2 = r ∧ f64 [28, 36] steC h h2 ∧ stpR N a b h2) := by
  have hn := hM.1.1
  refine ⟨ok_Mo_laysSteps, Nat.le_of_ble_eq_true rfl, ?_⟩
  refine wq_aload_n (kk := 0) (q := 1) rfl rfl rfl ?_
  refine wq_iload_n (kk := 2) (q := 2) rfl rfl rfl ?_
  refine wq_callV (q := 5) (m' := m_Mo_laysGoal) (R' := rm 6) (As := [_]) rfl rfl l_Mo_298 vm_Mo_laysGoal rfl rfl rfl (Or.inl ⟨rfl, Nat.le_of_ble_eq_true rfl⟩) (Nat.le_of_ble_eq_true rfl) (Nat.le_of_ble_eq_true rfl) (Nat.le_refl _) (Nat.le_refl _) (Nat.le_of_ble_eq_true rfl) (Mo_laysGoal_ok N b h r hM) rfl ?_
  rintro rv h1 r ⟨rfl, rfl, f1, hG⟩ -
  have hm := hG.2.2.1
  refine wq_aload_n (kk := 0) (q := 6) rfl rfl rfl ?_
  refine wq_iconst (n := 0) (q := 7) rfl rfl rfl ?_
  refine wq_putI (kz := 36) (q := 10) rfl f_Mo_336 rfl rfl rfl (Or.inl ⟨rfl, Nat.le_of_ble_eq_true rfl⟩) rfl rfl ?_
  refine wq_aload_n (kk := 0) (q := 11) rfl rfl rfl ?_
  refine wq_getI (kz := 28) (q := 14) rfl f_Mo_275 rfl rfl (Or.inl ⟨rfl, Nat.le_of_ble_eq_true rfl⟩) rfl rfl ?_
  refine wq_iconst (n := 1) (q := 15) rfl rfl rfl ?_
  rw [show hup h1 64 36 0 64 28 = h1 64 28 from hup_j (by decide)]
  refine wq_isub (q := 16) rfl rfl (by first | omega | (simp [hup]; omega)) (by first | omega | (simp [hup]; omega)) ?_
  refine wq_istore_n (kk := 3) (q := 17) rfl rfl (Nat.le_of_ble_eq_true rfl) rfl ?_
  have e28 : hup h1 64 36 0 64 28 = h1 64 28 := hup_j (by decide)
  refine Mo_laysStepsL N a b h r hM _ _ _ none rfl (by omega) (by rw [e28]; omega) ((f1.mono (by decide) (by decide)).up (by decide) (by decide)) ?_ ?_
  · unfold goal
    rw [e28]
    exact hG
  · rw [e28, hup_s]
    exact ⟨by omega, fun k k0 k1 => by omega, fun k j k0 kj j1 => by omega, fun q q0 q1 => by omega⟩
theorem stq {h h1 : mH} (f : f64 [28, 36] steC h h1) : f64 qF qK h h1 := f.mono (by decide) (by decide)
set_option maxRecDepth 100000 in
set_option maxHeartbeats 1000000 in
theorem Mo_areUnlike_ok (a b : Int) (N : mN) (h : mH) (r : mR) (hI : mI h N) : Meets true (rm 3) m_Mo_areUnlike [vR 64, vI a, vI b] h r (pI (bI (kU (nS N) a b)) h r) := by
  have e1 := hI.1.2.2.1
  have hS := hI.1.1.2.1
  have hT := hI.2
  refine ⟨ok_Mo_areUnlike, Nat.le_of_ble_eq_true rfl, ?_⟩
  refine wq_aload_n (kk := 0) (q := 1) rfl rfl rfl ?_
  refine wq_iload_n (kk := 1) (q := 2) rfl rfl rfl ?_
  refine wq_callV (q := 5) (m' := m_Mo_isSpot) (R' := rm 2) (As := [_]) rfl rfl l_Mo_263 vm_Mo_isSpot rfl rfl rfl (Or.inl ⟨rfl, Nat.le_of_ble_eq_true rfl⟩) (Nat.le_of_ble_eq_true rfl) (Nat.le_of_ble_eq_true rfl) (Nat.le_refl _) (Nat.le_refl _) (Nat.le_of_ble_eq_true rfl) (Mo_isSpot_ok a h r (by omega) (by omega) (by omega)) rfl ?_
  rintro rv h r ⟨rfl, rfl, rfl⟩ -
  refine wq_cif_eq (tgt := 25) (q := 8) rfl rfl rfl (fun c5 => ?_) (fun c5 => ?_)
  · skip
    refine wq_iconst (n := 0) (q := 26) rfl rfl rfl ?_
    refine wq_zret rfl rfl (Nat.le_refl _) (Nat.le_refl _) (by omega) ?_
    first | exact ⟨rfl, rfl, rfl⟩ | exact pB_t (by omega) | exact pB_f (by omega) | exact pC_t (by omega) | exact pC_f (by omega) | (exfalso; omega)
  · skip
    refine wq_aload_n (kk := 0) (q := 9) rfl rfl rfl ?_
    refine wq_iload_n (kk := 2) (q := 10) rfl rfl rfl ?_
    refine wq_callV (q := 13) (m' := m_Mo_isSpot) (R' := rm 2) (As := [_]) rfl rfl l_Mo_263 vm_Mo_isSpot rfl rfl rfl (Or.inl ⟨rfl, Nat.le_of_ble_eq_true rfl⟩) (Nat.le_of_ble_eq_true rfl) (Nat.le_of_ble_eq_true rfl) (Nat.le_refl _) (Nat.le_refl _) (Nat.le_of_ble_eq_true rfl) (Mo_isSpot_ok b h r (by omega) (by omega) (by omega)) rfl ?_
    rintro rv h r ⟨rfl, rfl, rfl⟩ -
    refine wq_cif_eq (tgt := 25) (q := 16) rfl rfl rfl (fun c13 => ?_) (fun c13 => ?_)
    · skip
      refine wq_iconst (n := 0) (q := 26) rfl rfl rfl ?_
      refine wq_zret rfl rfl (Nat.le_refl _) (Nat.le_refl _) (by omega) ?_
      first | exact ⟨rfl, rfl, rfl⟩ | exact pB_t (by omega) | exact pB_f (by omega) | exact pC_t (by omega) | exact pC_f (by omega) | (exfalso; omega)
    · skip
      refine wq_iload_n (kk := 1) (q := 17) rfl rfl rfl ?_
      refine wq_iload_n (kk := 2) (q := 18) rfl rfl rfl ?_
      refine wq_icmp_eq (tgt := 25) (q := 21) rfl rfl rfl (fun c18 => ?_) (fun c18 => ?_)
      · skip
        refine wq_iconst (n := 0) (q := 26) rfl rfl rfl ?_
        refine wq_zret rfl rfl (Nat.le_refl _) (Nat.le_refl _) (by omega) ?_
        first | exact ⟨rfl, rfl, rfl⟩ | exact pB_t (by omega) | exact pB_f (by omega) | exact pC_t (by omega) | exact pC_f (by omega) | (exfalso; omega)
      · skip
        refine wq_iconst (n := 1) (q := 22) rfl rfl rfl ?_
        refine wq_goto (tgt := 26) rfl rfl ?_
        refine wq_zret rfl rfl (Nat.le_refl _) (Nat.le_refl _) (by omega) ?_
        first | exact ⟨rfl, rfl, rfl⟩ | exact pB_t (by omega) | exact pB_f (by omega) | exact pC_t (by omega) | exact pC_f (by omega) | (exfalso; omega)
theorem kX_1 {n a b : Int} : (if bI (kU n a b) = 0 then (1 : Int) else 0) = kX n a b 1 := by
  unfold kX
  by_cases z : kU n a b
  · rw [bI_t z, if_pos z]; rfl
  · rw [bI_f z, if_neg z]; rfl
theorem kX_r {n a b g : Int} : 0 ≤ kX n a b g ∧ kX n a b g ≤ 2 := by
  unfold kX
  split
  · split <;> omega
  · omega
set_option maxRecDepth 100000 in
set_option maxHeartbeats 1000000 in
theorem Mo_steps_ok (a b : Int) (N : mN) (h : mH) (r : mR) (hI : mI h N) : Meets true (rm 8) m_Mo_steps [vR 64, vI a, vI b] h r (rqQ h r (Ans (kX (nS N) a b 1) (Sm N a b))) := by
  refine ⟨ok_Mo_steps, Nat.le_of_ble_eq_true rfl, ?_⟩
  refine wq_aload_n (kk := 0) (q := 1) rfl rfl rfl ?_
  refine wq_aload_n (kk := 0) (q := 2) rfl rfl rfl ?_
  refine wq_iload_n (kk := 1) (q := 3) rfl rfl rfl ?_
  refine wq_iload_n (kk := 2) (q := 4) rfl rfl rfl ?_
  refine wq_callV (q := 7) (m' := m_Mo_areUnlike) (R' := rm 3) (As := [_, _]) rfl rfl l_Mo_351 vm_Mo_areUnlike rfl rfl rfl (Or.inl ⟨rfl, Nat.le_of_ble_eq_true rfl⟩) (Nat.le_of_ble_eq_true rfl) (Nat.le_of_ble_eq_true rfl) (Nat.le_refl _) (Nat.le_refl _) (Nat.le_of_ble_eq_true rfl) (Mo_areUnlike_ok a b N h r hI) rfl ?_
  rintro rv h r ⟨rfl, rfl, rfl⟩ -
  refine wq_callS (q := 10) (m' := m_Mo_unless) (R' := rm 1) (As := [_]) rfl rfl l_Mo_256 sm_Mo_unless rfl (Nat.le_of_ble_eq_true rfl) (Nat.le_of_ble_eq_true rfl) (Nat.le_refl _) (Nat.le_refl _) (Nat.le_of_ble_eq_true rfl) (Mo_unless_ok _ h r) rfl ?_
  rintro rv h r ⟨rfl, rfl, rfl⟩ -
  rw [kX_1]
  generalize hk : kX (nS N) a b 1 = k
  refine wq_callV (q := 13) (m' := m_Mo_isRefused) (R' := rm 1) (As := [_]) rfl rfl l_Mo_228 vm_Mo_isRefused rfl rfl rfl (Or.inl ⟨rfl, Nat.le_of_ble_eq_true rfl⟩) (Nat.le_of_ble_eq_true rfl) (Nat.le_of_ble_eq_true rfl) (Nat.le_refl _) (Nat.le_refl _) (Nat.le_of_ble_eq_true rfl) (Mo_isRefused_ok k h r) rfl ?_
  rintro rv h1 r ⟨rfl, rfl, rfl⟩ -
  have f1 := x_ref_f (S := qF) (C := qK) (h := h) (k := k) (by decide) (by decide) (by decide) (by decide)
  have I1 := mI_f hI f1 (by decide) (by decide)
  refine wq_cif_eq (tgt := 18) (q := 16) rfl rfl rfl (fun c13 => ?_) (fun c13 => ?_)
  · skip
    have k0 : k = 0 := by simpa using c13
    subst k0
    refine wq_aload_n (kk := 0) (q := 19) rfl rfl rfl ?_
    refine wq_iload_n (kk := 1) (q := 20) rfl rfl rfl ?_
    refine wq_iload_n (kk := 2) (q := 21) rfl rfl rfl ?_
    refine wq_callV (q := 24) (m' := m_Mo_laysSteps) (R' := rm 7) (As := [_, _]) rfl rfl l_Mo_369 vm_Mo_laysSteps rfl rfl rfl (Or.inl ⟨rfl, Nat.le_of_ble_eq_true rfl⟩) (Nat.le_of_ble_eq_true rfl) (Nat.le_of_ble_eq_true rfl) (Nat.le_refl _) (Nat.le_refl _) (Nat.le_of_ble_eq_true rfl) (Mo_laysSteps_ok N a b _ r I1.1) rfl ?_
    rintro rv h2 r ⟨rfl, rfl, f2, hT⟩ -
    have e1 : h2 64 1 = 0 := by rw [f2.2 1 (by decide)]; exact x_ref_1
    have f3 := f1.tr (stq f2) (fun _ y => y) (fun _ y => y)
    refine wq_aload_n (kk := 0) (q := 25) rfl rfl rfl ?_
    refine wq_getI (kz := 36) (q := 28) rfl f_Mo_336 rfl rfl (Or.inl ⟨rfl, Nat.le_of_ble_eq_true rfl⟩) rfl rfl ?_
    exact wq_iret rfl rfl (Nat.le_refl _) (Nat.le_refl _) ⟨_, rfl, rfl, Or.inr ⟨rfl, e1, _, _, _, hT.2.1⟩, by omega, f3⟩
  · skip
    refine wq_iconst (n := -1) (q := 17) rfl rfl rfl ?_
    exact wq_iret rfl rfl (Nat.le_refl _) (Nat.le_refl _) ⟨_, rfl, rfl, Or.inl ⟨c13, rfl, x_ref_1⟩, by rw [x_ref_1]; have := kX_r (n := nS N) (a := a) (b := b) (g := 1); omega, f1⟩
def QkI (h1 : mH) (k v : Int) : Prop := (k = 0 ∧ v = -2) ∨ (0 < k ∧ (∃ j, 0 ≤ j ∧ j < k ∧ v = h1 82 j - h1 81 j) ∧ ∀ j, 0 ≤ j → j < k → v ≤ h1 82 j - h1 81 j)
set_option maxRecDepth 100000 in
set_option maxHeartbeats 1000000 in
theorem Mo_quickL (N : mN) (hV : NV N) (a b : Int) (h : mH) (r : mR) (h1 : mH) (hT : stpR N a b h1) (e1 : h1 64 1 = 0) (f1 : f64 qF qK h h1) (P : Int → Int → Prop) (K : ∀ v, Lea (h1 64 36) (h1 81) (h1 82) v → P v 0) : ∀ (M : Nat) (k v : Int) (x5 : Option mV), (h1 64 36 - k).toNat = M → 0 ≤ k → k ≤ h1 64 36 → QkI h1 k v → WP (true, rm 8) m_Mo_quickest (rt m_Mo_quickest (rm 8) (rqQ h r P)) 30 [some (vR 64), some (vI a), some (vI b), some (vI v), some (vI k), x5] [] h1 r (0, 0) := by
  intro M
  induction M using Nat.strongRecOn with
  | ind M ih =>
    intro k v x5 hN k0 k1 hF
    have hc := hT.1
    have hb : k < h1 64 36 → (0 ≤ h1 81 k ∧ h1 81 k ≤ 1500) ∧ 0 ≤ h1 82 k ∧ h1 82 k ≤ 1700 := fun z => hT.2.2 k k0 z
    have pos : ∀ j, 0 ≤ j → j < h1 64 36 → h1 81 j < h1 82 j := fun j j0 j1 => by
      obtain ⟨B, e, t, l, x, hL, hB, hSt⟩ := hT.2.1
      obtain ⟨d, -, d1, d2, d3, -⟩ := hSt.2.1 j j0 j1
      have := Lab.l2 hV hB hL d1.1 d1.2.1 d1.2.2.2
      have := hV.2.2.1 d d1.1
      omega
    have hv : v = -2 → k = 0 := fun z => by
      rcases hF with y | ⟨y1, ⟨j, j0, j1, j2⟩, y3⟩
      · exact y.1
      · have := pos j j0 (by omega); omega
    refine wq_iload (i := 4) (q := 32) rfl rfl rfl ?_
    refine wq_aload_n (kk := 0) (q := 33) rfl rfl rfl ?_
    refine wq_getI (kz := 36) (q := 36) rfl f_Mo_336 rfl rfl (Or.inl ⟨rfl, Nat.le_of_ble_eq_true rfl⟩) rfl rfl ?_
    refine wq_icmp_ge (tgt := 81) (q := 39) rfl rfl rfl (fun c36 => ?_) (fun c36 => ?_)
    · skip
      refine wq_iload_n (kk := 3) (q := 82) rfl rfl rfl ?_
      have es : k = h1 64 36 := by omega
      refine wq_iret rfl rfl (Nat.le_refl _) (Nat.le_refl _) ⟨_, rfl, rfl, ?_, by omega, f1⟩
      rw [e1]
      refine K v ?_
      rw [← es]
      exact hF
    · skip
      refine wq_aload_n (kk := 0) (q := 40) rfl rfl rfl ?_
      refine wq_getF (q := 43) f_Mo_66 rfl rfl (Nat.le_of_ble_eq_true rfl) rfl rfl rfl ?_
      refine wq_iload (i := 4) (q := 45) rfl rfl rfl ?_
      refine wq_iald (q := 46) rfl (Or.inl ⟨rfl, Nat.le_of_ble_eq_true rfl⟩) rfl rfl (by first | omega | (have := hb (by omega); omega)) (by first | omega | (have := hb (by omega); omega)) ?_
      refine wq_aload_n (kk := 0) (q := 47) rfl rfl rfl ?_
      refine wq_getF (q := 50) f_Mo_63 rfl rfl (Nat.le_of_ble_eq_true rfl) rfl rfl rfl ?_
      refine wq_iload (i := 4) (q := 52) rfl rfl rfl ?_
      refine wq_iald (q := 53) rfl (Or.inl ⟨rfl, Nat.le_of_ble_eq_true rfl⟩) rfl rfl (by first | omega | (have := hb (by omega); omega)) (by first | omega | (have := hb (by omega); omega)) ?_
      refine wq_isub (q := 54) rfl rfl (by first | omega | (have := hb (by omega); omega)) (by first | omega | (have := hb (by omega); omega)) ?_
      refine wq_istore (i := 5) (q := 56) rfl rfl (Nat.le_of_ble_eq_true rfl) rfl ?_
      refine wq_iload_n (kk := 3) (q := 57) rfl rfl rfl ?_
      refine wq_bipush (n := -2) (q := 59) rfl rfl rfl ?_
      refine wq_icmp_eq (tgt := 68) (q := 62) rfl rfl rfl (fun c59 => ?_) (fun c59 => ?_)
      · skip
        refine wq_iload (i := 5) (q := 70) rfl rfl rfl ?_
        refine wq_goto (tgt := 74) rfl rfl ?_
        refine wq_istore_n (kk := 3) (q := 75) rfl rfl (Nat.le_of_ble_eq_true rfl) rfl ?_
        refine wq_iinc (i := 4) (n := 1) (q := 78) rfl rfl rfl (Nat.le_of_ble_eq_true rfl) rfl (by first | omega | (have := hb (by omega); omega)) (by first | omega | (have := hb (by omega); omega)) ?_
        refine wq_goto (tgt := 30) rfl rfl ?_
        have hbk := hb (by omega)
        refine ih _ (by omega) (k + 1) _ _ rfl (by omega) (by omega) (Or.inr ⟨by omega, ?_, fun j j0 j1 => ?_⟩)
        · first
          | exact ⟨k, k0, by omega, rfl⟩
          | (rcases hF with y | ⟨y1, ⟨j, j0, j1, j2⟩, y3⟩
             · exact absurd y.2 c59
             · exact ⟨j, j0, by omega, j2⟩)
        · by_cases e : j = k
          · subst e; omega
          · rcases hF with y | ⟨y1, y2, y3⟩
            · omega
            · have := y3 j j0 (by omega)
              first | omega | (have := hv c59; omega)
      · skip
        refine wq_iload (i := 5) (q := 64) rfl rfl rfl ?_
        refine wq_iload_n (kk := 3) (q := 65) rfl rfl rfl ?_
        refine wq_icmp_ge (tgt := 73) (q := 68) rfl rfl rfl (fun c65 => ?_) (fun c65 => ?_)
        · skip
          refine wq_iload_n (kk := 3) (q := 74) rfl rfl rfl ?_
          refine wq_istore_n (kk := 3) (q := 75) rfl rfl (Nat.le_of_ble_eq_true rfl) rfl ?_
          refine wq_iinc (i := 4) (n := 1) (q := 78) rfl rfl rfl (Nat.le_of_ble_eq_true rfl) rfl (by first | omega | (have := hb (by omega); omega)) (by first | omega | (have := hb (by omega); omega)) ?_
          refine wq_goto (tgt := 30) rfl rfl ?_
          have hbk := hb (by omega)
          refine ih _ (by omega) (k + 1) _ _ rfl (by omega) (by omega) (Or.inr ⟨by omega, ?_, fun j j0 j1 => ?_⟩)
          · first
            | exact ⟨k, k0, by omega, rfl⟩
            | (rcases hF with y | ⟨y1, ⟨j, j0, j1, j2⟩, y3⟩
               · exact absurd y.2 c59
               · exact ⟨j, j0, by omega, j2⟩)
          · by_cases e : j = k
            · subst e; omega
            · rcases hF with y | ⟨y1, y2, y3⟩
              · omega
              · have := y3 j j0 (by omega)
                first | omega | (have := hv c59; omega)
        · skip
          refine wq_iload (i := 5) (q := 70) rfl rfl rfl ?_
          refine wq_goto (tgt := 74) rfl rfl ?_
          refine wq_istore_n (kk := 3) (q := 75) rfl rfl (Nat.le_of_ble_eq_true rfl) rfl ?_
          refine wq_iinc (i := 4) (n := 1) (q := 78) rfl rfl rfl (Nat.le_of_ble_eq_true rfl) rfl (by first | omega | (have := hb (by omega); omega)) (by first | omega | (have := hb (by omega); omega)) ?_
          refine wq_goto (tgt := 30) rfl rfl ?_
          have hbk := hb (by omega)
          refine ih _ (by omega) (k + 1) _ _ rfl (by omega) (by omega) (Or.inr ⟨by omega, ?_, fun j j0 j1 => ?_⟩)
          · first
            | exact ⟨k, k0, by omega, rfl⟩
            | (rcases hF with y | ⟨y1, ⟨j, j0, j1, j2⟩, y3⟩
               · exact absurd y.2 c59
               · exact ⟨j, j0, by omega, j2⟩)
          · by_cases e : j = k
            · subst e; omega
            · rcases hF with y | ⟨y1, y2, y3⟩
              · omega
              · have := y3 j j0 (by omega)
                first | omega | (have := hv c59; omega)
set_option maxRecDepth 100000 in
set_option maxHeartbeats 1000000 in
theorem Mo_quickest_ok (a b : Int) (N : mN) (h : mH) (r : mR) (hI : mI h N) : Meets true (rm 8) m_Mo_quickest [vR 64, vI a, vI b] h r (rqQ h r (Ans (kX (nS N) a b 1) (Sk2 N a b))) := by
  refine ⟨ok_Mo_quickest, Nat.le_of_ble_eq_true rfl, ?_⟩
  refine wq_aload_n (kk := 0) (q := 1) rfl rfl rfl ?_
  refine wq_aload_n (kk := 0) (q := 2) rfl rfl rfl ?_
  refine wq_iload_n (kk := 1) (q := 3) rfl rfl rfl ?_
  refine wq_iload_n (kk := 2) (q := 4) rfl rfl rfl ?_
  refine wq_callV (q := 7) (m' := m_Mo_areUnlike) (R' := rm 3) (As := [_, _]) rfl rfl l_Mo_351 vm_Mo_areUnlike rfl rfl rfl (Or.inl ⟨rfl, Nat.le_of_ble_eq_true rfl⟩) (Nat.le_of_ble_eq_true rfl) (Nat.le_of_ble_eq_true rfl) (Nat.le_refl _) (Nat.le_refl _) (Nat.le_of_ble_eq_true rfl) (Mo_areUnlike_ok a b N h r hI) rfl ?_
  rintro rv h r ⟨rfl, rfl, rfl⟩ -
  refine wq_callS (q := 10) (m' := m_Mo_unless) (R' := rm 1) (As := [_]) rfl rfl l_Mo_256 sm_Mo_unless rfl (Nat.le_of_ble_eq_true rfl) (Nat.le_of_ble_eq_true rfl) (Nat.le_refl _) (Nat.le_refl _) (Nat.le_of_ble_eq_true rfl) (Mo_unless_ok _ h r) rfl ?_
  rintro rv h r ⟨rfl, rfl, rfl⟩ -
  rw [kX_1]
  generalize hk : kX (nS N) a b 1 = k
  refine wq_callV (q := 13) (m' := m_Mo_isRefused) (R' := rm 1) (As := [_]) rfl rfl l_Mo_228 vm_Mo_isRefused rfl rfl rfl (Or.inl ⟨rfl, Nat.le_of_ble_eq_true rfl⟩) (Nat.le_of_ble_eq_true rfl) (Nat.le_of_ble_eq_true rfl) (Nat.le_refl _) (Nat.le_refl _) (Nat.le_of_ble_eq_true rfl) (Mo_isRefused_ok k h r) rfl ?_
  rintro rv h1 r ⟨rfl, rfl, rfl⟩ -
  have f1 := x_ref_f (S := qF) (C := qK) (h := h) (k := k) (by decide) (by decide) (by decide) (by decide)
  have I1 := mI_f hI f1 (by decide) (by decide)
  refine wq_cif_eq (tgt := 18) (q := 16) rfl rfl rfl (fun c13 => ?_) (fun c13 => ?_)
  · skip
    have k0 : k = 0 := by simpa using c13
    subst k0
    refine wq_aload_n (kk := 0) (q := 19) rfl rfl rfl ?_
    refine wq_iload_n (kk := 1) (q := 20) rfl rfl rfl ?_
    refine wq_iload_n (kk := 2) (q := 21) rfl rfl rfl ?_
    refine wq_callV (q := 24) (m' := m_Mo_laysSteps) (R' := rm 7) (As := [_, _]) rfl rfl l_Mo_369 vm_Mo_laysSteps rfl rfl rfl (Or.inl ⟨rfl, Nat.le_of_ble_eq_true rfl⟩) (Nat.le_of_ble_eq_true rfl) (Nat.le_of_ble_eq_true rfl) (Nat.le_refl _) (Nat.le_refl _) (Nat.le_of_ble_eq_true rfl) (Mo_laysSteps_ok N a b _ r I1.1) rfl ?_
    rintro rv h2 r ⟨rfl, rfl, f2, hT⟩ -
    have e1 : h2 64 1 = 0 := by rw [f2.2 1 (by decide)]; exact x_ref_1
    have f3 := f1.tr (stq f2) (fun _ y => y) (fun _ y => y)
    refine wq_bipush (n := -2) (q := 26) rfl rfl rfl ?_
    refine wq_istore_n (kk := 3) (q := 27) rfl rfl (Nat.le_of_ble_eq_true rfl) rfl ?_
    refine wq_iconst (n := 0) (q := 28) rfl rfl rfl ?_
    refine wq_istore (i := 4) (q := 30) rfl rfl (Nat.le_of_ble_eq_true rfl) rfl ?_
    exact Mo_quickL N hI.1.1 a b h r h2 hT e1 f3 _ (fun v hv => Or.inr ⟨rfl, rfl, _, _, _, _, hT.2.1, hv⟩) _ 0 _ none rfl (by omega) hT.1.1 (Or.inl ⟨rfl, rfl⟩)
  · skip
    refine wq_iconst (n := -1) (q := 17) rfl rfl rfl ?_
    exact wq_iret rfl rfl (Nat.le_refl _) (Nat.le_refl _) ⟨_, rfl, rfl, Or.inl ⟨c13, rfl, x_ref_1⟩, by rw [x_ref_1]; have := kX_r (n := nS N) (a := a) (b := b) (g := 1); omega, f1⟩
/-- as the reference tells a step -/
def So2R (N : mN) (a b i w v tr : Int) : Prop := (¬ (0 ≤ w ∧ w ≤ 2) ∧ v = -1 ∧ tr = 1) ∨ So2 N a b i w v tr
theorem So2R.eq {N : mN} {a b i w v tr v' tr' : Int} (hV : NV N) (h : So2 N a b i w v tr) (h' : So2R N a b i w v' tr') : v = v' ∧ tr = tr' := by
  rcases h' with h' | h'
  · obtain ⟨c, sl, sa, sc, -, z⟩ := h
    omega
  · exact h.uniq hV h'
set_option maxRecDepth 100000 in
set_option maxHeartbeats 1000000 in
theorem Mo_stepA (a b i w g : Int) (N : mN) (h : mH) (r : mR) (hI : mI h N) (hg : g = bI (kU (nS N) a b ∧ 0 ≤ w ∧ w ≤ 2)) : WP (true, rm 8) m_Mo_step (rt m_Mo_step (rm 8) (rqQ h r (Ans (kX (nS N) a b 1) (So2R N a b i w)))) 25 [some (vR 64), some (vI a), some (vI b), some (vI i), some (vI w)] [vI g, vR 64] h r (0, 0) := by
  subst hg
  refine wq_callS (q := 28) (m' := m_Mo_unless) (R' := rm 1) (As := [_]) rfl rfl l_Mo_256 sm_Mo_unless rfl (Nat.le_of_ble_eq_true rfl) (Nat.le_of_ble_eq_true rfl) (Nat.le_refl _) (Nat.le_refl _) (Nat.le_of_ble_eq_true rfl) (Mo_unless_ok _ h r) rfl ?_
  rintro rv h r ⟨rfl, rfl, rfl⟩ -
  generalize hk : (if bI (kU (nS N) a b ∧ 0 ≤ w ∧ w ≤ 2) = 0 then (1 : Int) else 0) = k
  refine wq_callV (q := 31) (m' := m_Mo_isRefused) (R' := rm 1) (As := [_]) rfl rfl l_Mo_228 vm_Mo_isRefused rfl rfl rfl (Or.inl ⟨rfl, Nat.le_of_ble_eq_true rfl⟩) (Nat.le_of_ble_eq_true rfl) (Nat.le_of_ble_eq_true rfl) (Nat.le_refl _) (Nat.le_refl _) (Nat.le_of_ble_eq_true rfl) (Mo_isRefused_ok k h r) rfl ?_
  rintro rv h1 r ⟨rfl, rfl, rfl⟩ -
  have f1 := x_ref_f (S := qF) (C := qK) (h := h) (k := k) (by decide) (by decide) (by decide) (by decide)
  have I1 := mI_f hI f1 (by decide) (by decide)
  refine wq_cif_eq (tgt := 36) (q := 34) rfl rfl rfl (fun c31 => ?_) (fun c31 => ?_)
  · skip
    have k0 : k = 0 := by simpa using c31
    subst k0
    have z0 : kU (nS N) a b ∧ 0 ≤ w ∧ w ≤ 2 := bI_ne (fun z => by rw [if_pos z] at hk; omega)
    have hk0 : kX (nS N) a b 1 = 0 := by
      unfold kX
      rw [if_pos z0.1]; rfl
    refine wq_aload_n (kk := 0) (q := 37) rfl rfl rfl ?_
    refine wq_iload_n (kk := 1) (q := 38) rfl rfl rfl ?_
    refine wq_iload_n (kk := 2) (q := 39) rfl rfl rfl ?_
    refine wq_callV (q := 42) (m' := m_Mo_laysSteps) (R' := rm 7) (As := [_, _]) rfl rfl l_Mo_369 vm_Mo_laysSteps rfl rfl rfl (Or.inl ⟨rfl, Nat.le_of_ble_eq_true rfl⟩) (Nat.le_of_ble_eq_true rfl) (Nat.le_of_ble_eq_true rfl) (Nat.le_refl _) (Nat.le_refl _) (Nat.le_of_ble_eq_true rfl) (Mo_laysSteps_ok N a b _ r I1.1) rfl ?_
    rintro rv h2 r ⟨rfl, rfl, f2, hT⟩ -
    have e1 : h2 64 1 = 0 := by rw [f2.2 1 (by decide)]; exact x_ref_1
    have f3 := f1.tr (stq f2) (fun _ y => y) (fun _ y => y)
    have hc := hT.1
    refine wq_iload_n (kk := 3) (q := 43) rfl rfl rfl ?_
    refine wq_iconst (n := 0) (q := 44) rfl rfl rfl ?_
    refine wq_aload_n (kk := 0) (q := 45) rfl rfl rfl ?_
    refine wq_getI (kz := 36) (q := 48) rfl f_Mo_336 rfl rfl (Or.inl ⟨rfl, Nat.le_of_ble_eq_true rfl⟩) rfl rfl ?_
    refine wq_iconst (n := 1) (q := 49) rfl rfl rfl ?_
    refine wq_isub (q := 50) rfl rfl (by first | omega | (simp [hup]; omega)) (by first | omega | (simp [hup]; omega)) ?_
    refine wq_callS (q := 53) (m' := m_Mo_in) (R' := rm 1) (As := [_, _, _]) rfl rfl l_Mo_107 sm_Mo_in rfl (Nat.le_of_ble_eq_true rfl) (Nat.le_of_ble_eq_true rfl) (Nat.le_refl _) (Nat.le_refl _) (Nat.le_of_ble_eq_true rfl) (Mo_in_ok _ _ _ h2 r) rfl ?_
    rintro rv h2 r ⟨rfl, rfl, rfl⟩ -
    refine wq_cif_ne (tgt := 62) (q := 56) rfl rfl rfl (fun c53 => ?_) (fun c53 => ?_)
    · skip
      refine wq_iload (i := 4) (q := 64) rfl rfl rfl ?_
      refine wq_if_ne (tgt := 76) (q := 67) rfl rfl rfl (fun c64 => ?_) (fun c64 => ?_)
      · skip
        refine wq_iload (i := 4) (q := 78) rfl rfl rfl ?_
        refine wq_iconst (n := 1) (q := 79) rfl rfl rfl ?_
        refine wq_icmp_ne (tgt := 91) (q := 82) rfl rfl rfl (fun c79 => ?_) (fun c79 => ?_)
        · skip
          refine wq_aload_n (kk := 0) (q := 92) rfl rfl rfl ?_
          refine wq_getF (q := 95) f_Mo_69 rfl rfl (Nat.le_of_ble_eq_true rfl) rfl rfl rfl ?_
          refine wq_iload_n (kk := 3) (q := 96) rfl rfl rfl ?_
          refine wq_iald (q := 97) rfl (Or.inl ⟨rfl, Nat.le_of_ble_eq_true rfl⟩) rfl rfl (by first | omega | (simp [hup]; omega)) (by first | omega | (simp [hup]; omega)) ?_
          refine wq_iret rfl rfl (Nat.le_refl _) (Nat.le_refl _) ⟨_, rfl, rfl, Or.inr ⟨hk0, Or.inr ⟨_, _, _, _, hT.2.1, Or.inr ⟨by omega, ?_, e1⟩⟩⟩, by omega, f3⟩
          first
          | exact Or.inl ⟨by omega, rfl⟩
          | exact Or.inr (Or.inl ⟨by omega, rfl⟩)
          | exact Or.inr (Or.inr ⟨by omega, rfl⟩)
        · skip
          refine wq_aload_n (kk := 0) (q := 83) rfl rfl rfl ?_
          refine wq_getF (q := 86) f_Mo_66 rfl rfl (Nat.le_of_ble_eq_true rfl) rfl rfl rfl ?_
          refine wq_iload_n (kk := 3) (q := 87) rfl rfl rfl ?_
          refine wq_iald (q := 88) rfl (Or.inl ⟨rfl, Nat.le_of_ble_eq_true rfl⟩) rfl rfl (by first | omega | (simp [hup]; omega)) (by first | omega | (simp [hup]; omega)) ?_
          refine wq_goto (tgt := 97) rfl rfl ?_
          refine wq_iret rfl rfl (Nat.le_refl _) (Nat.le_refl _) ⟨_, rfl, rfl, Or.inr ⟨hk0, Or.inr ⟨_, _, _, _, hT.2.1, Or.inr ⟨by omega, ?_, e1⟩⟩⟩, by omega, f3⟩
          first
          | exact Or.inl ⟨by omega, rfl⟩
          | exact Or.inr (Or.inl ⟨by omega, rfl⟩)
          | exact Or.inr (Or.inr ⟨by omega, rfl⟩)
      · skip
        refine wq_aload_n (kk := 0) (q := 68) rfl rfl rfl ?_
        refine wq_getF (q := 71) f_Mo_63 rfl rfl (Nat.le_of_ble_eq_true rfl) rfl rfl rfl ?_
        refine wq_iload_n (kk := 3) (q := 72) rfl rfl rfl ?_
        refine wq_iald (q := 73) rfl (Or.inl ⟨rfl, Nat.le_of_ble_eq_true rfl⟩) rfl rfl (by first | omega | (simp [hup]; omega)) (by first | omega | (simp [hup]; omega)) ?_
        refine wq_goto (tgt := 97) rfl rfl ?_
        refine wq_iret rfl rfl (Nat.le_refl _) (Nat.le_refl _) ⟨_, rfl, rfl, Or.inr ⟨hk0, Or.inr ⟨_, _, _, _, hT.2.1, Or.inr ⟨by omega, ?_, e1⟩⟩⟩, by omega, f3⟩
        first
        | exact Or.inl ⟨by omega, rfl⟩
        | exact Or.inr (Or.inl ⟨by omega, rfl⟩)
        | exact Or.inr (Or.inr ⟨by omega, rfl⟩)
    · skip
      refine wq_aload_n (kk := 0) (q := 57) rfl rfl rfl ?_
      refine wq_iconst (n := 1) (q := 58) rfl rfl rfl ?_
      refine wq_callV (q := 61) (m' := m_Mo_no) (R' := rm 1) (As := [_]) rfl rfl l_Mo_237 vm_Mo_no rfl rfl rfl (Or.inl ⟨rfl, Nat.le_of_ble_eq_true rfl⟩) (Nat.le_of_ble_eq_true rfl) (Nat.le_of_ble_eq_true rfl) (Nat.le_refl _) (Nat.le_refl _) (Nat.le_of_ble_eq_true rfl) (Mo_no_ok 1 h2 r) rfl ?_
      rintro rv h3 r ⟨rfl, rfl, rfl⟩ -
      exact wq_iret rfl rfl (Nat.le_refl _) (Nat.le_refl _) ⟨_, rfl, rfl, Or.inr ⟨hk0, Or.inr ⟨_, _, _, _, hT.2.1, Or.inl ⟨by omega, rfl, hup_s⟩⟩⟩, by rw [hup_s]; decide, f3.up (by decide) (by decide)⟩
  · skip
    refine wq_iconst (n := -1) (q := 35) rfl rfl rfl ?_
    have k1 : k = 1 := by
      split at hk <;> omega
    have z0 : ¬ (kU (nS N) a b ∧ 0 ≤ w ∧ w ≤ 2) := fun z => by rw [bI_t z, if_neg (by decide)] at hk; omega
    refine wq_iret rfl rfl (Nat.le_refl _) (Nat.le_refl _) ⟨_, rfl, rfl, ?_, by rw [x_ref_1]; omega, f1⟩
    rw [x_ref_1, k1]
    by_cases z : kU (nS N) a b
    · refine Or.inr ⟨?_, Or.inl ⟨fun y => z0 ⟨z, y⟩, rfl, rfl⟩⟩
      unfold kX
      rw [if_pos z]; rfl
    · have : kX (nS N) a b 1 = 1 := if_neg z
      exact Or.inl ⟨by omega, rfl, this.symm⟩
set_option maxRecDepth 100000 in
set_option maxHeartbeats 1000000 in
theorem Mo_step_ok (a b i w : Int) (N : mN) (h : mH) (r : mR) (hI : mI h N) : Meets true (rm 8) m_Mo_step [vR 64, vI a, vI b, vI i, vI w] h r (rqQ h r (Ans (kX (nS N) a b 1) (So2R N a b i w))) := by
  refine ⟨ok_Mo_step, Nat.le_of_ble_eq_true rfl, ?_⟩
  refine wq_aload_n (kk := 0) (q := 1) rfl rfl rfl ?_
  refine wq_aload_n (kk := 0) (q := 2) rfl rfl rfl ?_
  refine wq_iload_n (kk := 1) (q := 3) rfl rfl rfl ?_
  refine wq_iload_n (kk := 2) (q := 4) rfl rfl rfl ?_
  refine wq_callV (q := 7) (m' := m_Mo_areUnlike) (R' := rm 3) (As := [_, _]) rfl rfl l_Mo_351 vm_Mo_areUnlike rfl rfl rfl (Or.inl ⟨rfl, Nat.le_of_ble_eq_true rfl⟩) (Nat.le_of_ble_eq_true rfl) (Nat.le_of_ble_eq_true rfl) (Nat.le_refl _) (Nat.le_refl _) (Nat.le_of_ble_eq_true rfl) (Mo_areUnlike_ok a b N h r hI) rfl ?_
  rintro rv h r ⟨rfl, rfl, rfl⟩ -
  refine wq_cif_eq (tgt := 24) (q := 10) rfl rfl rfl (fun c7 => ?_) (fun c7 => ?_)
  · skip
    refine wq_iconst (n := 0) (q := 25) rfl rfl rfl ?_
    first
    | exact Mo_stepA a b i w 1 N h r hI (bI_t ⟨by assumption, by assumption⟩).symm
    | exact Mo_stepA a b i w 0 N h r hI (bI_f (fun z => by first | exact c7 z.1 | exact c17 z.2)).symm
  · skip
    refine wq_iload (i := 4) (q := 12) rfl rfl rfl ?_
    refine wq_iconst (n := 0) (q := 13) rfl rfl rfl ?_
    refine wq_iconst (n := 2) (q := 14) rfl rfl rfl ?_
    refine wq_callS (q := 17) (m' := m_Mo_in) (R' := rm 1) (As := [_, _, _]) rfl rfl l_Mo_107 sm_Mo_in rfl (Nat.le_of_ble_eq_true rfl) (Nat.le_of_ble_eq_true rfl) (Nat.le_refl _) (Nat.le_refl _) (Nat.le_of_ble_eq_true rfl) (Mo_in_ok _ _ _ h r) rfl ?_
    rintro rv h r ⟨rfl, rfl, rfl⟩ -
    refine wq_cif_eq (tgt := 24) (q := 20) rfl rfl rfl (fun c17 => ?_) (fun c17 => ?_)
    · skip
      refine wq_iconst (n := 0) (q := 25) rfl rfl rfl ?_
      first
      | exact Mo_stepA a b i w 1 N h r hI (bI_t ⟨by assumption, by assumption⟩).symm
      | exact Mo_stepA a b i w 0 N h r hI (bI_f (fun z => by first | exact c7 z.1 | exact c17 z.2)).symm
    · skip
      refine wq_iconst (n := 1) (q := 21) rfl rfl rfl ?_
      refine wq_goto (tgt := 25) rfl rfl ?_
      first
      | exact Mo_stepA a b i w 1 N h r hI (bI_t ⟨by assumption, by assumption⟩).symm
      | exact Mo_stepA a b i w 0 N h r hI (bI_f (fun z => by first | exact c7 z.1 | exact c17 z.2)).symm

/-! LinkTimesModel: soonestBy, within, trades -/
def SbI (N : mN) (h : mH) (a t k d v : Int) : Prop := (v = 9999 ∨ ∃ e, e < d ∧ dp N e ∧ rn N e = 1 ∧ frm N e = a ∧ t ≤ lv N e ∧ Vr h k e = v) ∧ v ≤ 9999 ∧ ∀ e, e < d → dp N e → rn N e = 1 → frm N e = a → t ≤ lv N e → v ≤ Vr h k e
def LoI (N : mN) (h : mH) (a t k s d v : Int) : Prop := (v = -2 ∨ ∃ e, e < d ∧ dp N e ∧ rn N e = 1 ∧ frm N e = a ∧ t ≤ lv N e ∧ Vr h k e = s ∧ v = lv N e) ∧ -2 ≤ v ∧ ∀ e, e < d → dp N e → rn N e = 1 → frm N e = a → t ≤ lv N e → Vr h k e = s → lv N e ≤ v
set_option maxRecDepth 100000 in
set_option maxHeartbeats 1000000 in
theorem Mo_soonestByL (N : mN) (a t k : Int) (h : mH) (r : mR) (hM : isM h N) (hk : 0 ≤ k ∧ k < 120) : ∀ (M : Nat) (d v : Int) (x6 : Option mV), (nN N - d).toNat = M → 0 ≤ d → d ≤ nN N → SbI N h a t k d v → WP (true, rm 3) m_Mo_soonestBy (rt m_Mo_soonestBy (rm 3) (fun rv h1 r1 => ∃ s, rv = some (vI s) ∧ h1 = h ∧ r1 = r ∧ Sk N a t 9999 (Vr h k) s)) 8 [some (vR 64), some (vI a), some (vI t), some (vI k), some (vI v), some (vI d), x6] [] h r (0, 0) := by
  intro M
  induction M using Nat.strongRecOn with
  | ind M ih =>
    intro d v x6 hN d0 d1 hF
    have hV := hM.1
    have hn := hV.1
    have e4 := hM.2.1
    have hdp : d < nN N → dp N d := fun z => ⟨d0, z⟩
    have hfr : d < nN N → h 66 (25 + 8 * d + 1) = frm N d := fun z => (hM.2.2.2.1 d ⟨d0, z⟩).2.2.1
    have ev : Vr h k d = h 78 (120 * d + k) := Vr_k hk.1
    have step : ∀ w, w ≤ v → (w = v ∨ (d < nN N ∧ rn N d = 1 ∧ frm N d = a ∧ t ≤ lv N d ∧ w = Vr h k d)) → (d < nN N → rn N d = 1 → frm N d = a → t ≤ lv N d → w ≤ Vr h k d) → SbI N h a t k (d + 1) w := fun w w1 w2 w3 => by
      obtain ⟨a1, a2, a3⟩ := hF
      refine ⟨?_, Int.le_trans w1 a2, fun e e0 e1 e2 e3 e5 => ?_⟩
      · rcases w2 with rfl | ⟨b1, b2, b3, b5, b6⟩
        · exact a1.imp id (fun ⟨e, c1, c2⟩ => ⟨e, by omega, c2⟩)
        · exact Or.inr ⟨d, by omega, ⟨d0, b1⟩, b2, b3, b5, b6.symm⟩
      · by_cases z : e = d
        · subst z; exact w3 e1.2 e2 e3 e5
        · exact Int.le_trans w1 (a3 e (by omega) e1 e2 e3 e5)
    refine wq_iload (i := 5) (q := 10) rfl rfl rfl ?_
    refine wq_aload_n (kk := 0) (q := 11) rfl rfl rfl ?_
    refine wq_getF (q := 14) f_Mo_17 rfl rfl (Nat.le_of_ble_eq_true rfl) rfl rfl rfl ?_
    refine wq_iconst (n := 4) (q := 15) rfl rfl rfl ?_
    refine wq_iald (q := 16) rfl (Or.inl ⟨rfl, Nat.le_of_ble_eq_true rfl⟩) rfl rfl (by first | omega | (simp [hup]; omega)) (by first | omega | (simp [hup]; omega)) ?_
    refine wq_icmp_ge (tgt := 97) (q := 19) rfl rfl rfl (fun c16 => ?_) (fun c16 => ?_)
    · skip
      refine wq_iload (i := 4) (q := 99) rfl rfl rfl ?_
      refine wq_iret rfl rfl (Nat.le_refl _) (Nat.le_refl _) ⟨v, rfl, rfl, rfl, ?_⟩
      obtain ⟨a1, a2, a3⟩ := hF
      exact ⟨a1.imp id (fun ⟨e, c1, c2⟩ => ⟨e, c2⟩), a2, fun e e1 e2 e3 e5 => a3 e (by have := e1.2; omega) e1 e2 e3 e5⟩
    · skip
      refine wq_aload_n (kk := 0) (q := 20) rfl rfl rfl ?_
      refine wq_iload (i := 5) (q := 22) rfl rfl rfl ?_
      refine wq_callV (q := 25) (m' := m_Mo_runs) (R' := rm 2) (As := [_]) rfl rfl l_Mo_253 vm_Mo_runs rfl rfl rfl (Or.inl ⟨rfl, Nat.le_of_ble_eq_true rfl⟩) (Nat.le_of_ble_eq_true rfl) (Nat.le_of_ble_eq_true rfl) (Nat.le_refl _) (Nat.le_refl _) (Nat.le_of_ble_eq_true rfl) (Mo_runs_ok N d h r hM (hdp (by omega))) rfl ?_
      rintro rv h r ⟨rfl, rfl, rfl⟩ -
      refine wq_cif_eq (tgt := 57) (q := 28) rfl rfl rfl (fun c25 => ?_) (fun c25 => ?_)
      · skip
        refine wq_iconst (n := 0) (q := 58) rfl rfl rfl ?_
        refine wq_istore (i := 6) (q := 60) rfl rfl (Nat.le_of_ble_eq_true rfl) rfl ?_
        refine wq_iload (i := 6) (q := 62) rfl rfl rfl ?_
        refine wq_if_eq (tgt := 87) (q := 65) rfl rfl rfl (fun c62 => ?_) (fun c62 => ?_)
        · skip
          refine wq_iload (i := 4) (q := 89) rfl rfl rfl ?_
          refine wq_istore (i := 4) (q := 91) rfl rfl (Nat.le_of_ble_eq_true rfl) rfl ?_
          refine wq_iinc (i := 5) (n := 1) (q := 94) rfl rfl rfl (Nat.le_of_ble_eq_true rfl) rfl (by first | omega | (simp [hup]; omega)) (by first | omega | (simp [hup]; omega)) ?_
          refine wq_goto (tgt := 8) rfl rfl ?_
          have hfd := hfr (by omega)
          refine ih _ (by omega) (d + 1) _ _ rfl (by omega) (by omega) (step _ ?_ ?_ ?_)
          · omega
          · first
            | exact Or.inl rfl
            | (exfalso; omega)
            | exact Or.inr ⟨by omega, by assumption, by omega, by omega, ev.symm⟩
          · intro y1 y2 y3 y4
            first
            | exact absurd y2 (by assumption)
            | omega
        · skip
          refine wq_aload_n (kk := 0) (q := 66) rfl rfl rfl ?_
          refine wq_iload (i := 5) (q := 68) rfl rfl rfl ?_
          refine wq_iload_n (kk := 3) (q := 69) rfl rfl rfl ?_
          refine wq_callV (q := 72) (m' := m_Mo_soonest) (R' := rm 1) (As := [_, _]) rfl rfl l_Mo_316 vm_Mo_soonest rfl rfl rfl (Or.inl ⟨rfl, Nat.le_of_ble_eq_true rfl⟩) (Nat.le_of_ble_eq_true rfl) (Nat.le_of_ble_eq_true rfl) (Nat.le_refl _) (Nat.le_refl _) (Nat.le_of_ble_eq_true rfl) (Mo_soonest_ok d k h r (by omega) hk) rfl ?_
          rintro rv h r ⟨rfl, rfl, rfl⟩ -
          refine wq_iload (i := 4) (q := 74) rfl rfl rfl ?_
          refine wq_icmp_ge (tgt := 87) (q := 77) rfl rfl rfl (fun c74 => ?_) (fun c74 => ?_)
          · skip
            refine wq_iload (i := 4) (q := 89) rfl rfl rfl ?_
            refine wq_istore (i := 4) (q := 91) rfl rfl (Nat.le_of_ble_eq_true rfl) rfl ?_
            refine wq_iinc (i := 5) (n := 1) (q := 94) rfl rfl rfl (Nat.le_of_ble_eq_true rfl) rfl (by first | omega | (simp [hup]; omega)) (by first | omega | (simp [hup]; omega)) ?_
            refine wq_goto (tgt := 8) rfl rfl ?_
            have hfd := hfr (by omega)
            refine ih _ (by omega) (d + 1) _ _ rfl (by omega) (by omega) (step _ ?_ ?_ ?_)
            · omega
            · first
              | exact Or.inl rfl
              | (exfalso; omega)
              | exact Or.inr ⟨by omega, by assumption, by omega, by omega, ev.symm⟩
            · intro y1 y2 y3 y4
              first
              | exact absurd y2 (by assumption)
              | omega
          · skip
            refine wq_aload_n (kk := 0) (q := 78) rfl rfl rfl ?_
            refine wq_iload (i := 5) (q := 80) rfl rfl rfl ?_
            refine wq_iload_n (kk := 3) (q := 81) rfl rfl rfl ?_
            refine wq_callV (q := 84) (m' := m_Mo_soonest) (R' := rm 1) (As := [_, _]) rfl rfl l_Mo_316 vm_Mo_soonest rfl rfl rfl (Or.inl ⟨rfl, Nat.le_of_ble_eq_true rfl⟩) (Nat.le_of_ble_eq_true rfl) (Nat.le_of_ble_eq_true rfl) (Nat.le_refl _) (Nat.le_refl _) (Nat.le_of_ble_eq_true rfl) (Mo_soonest_ok d k h r (by omega) hk) rfl ?_
            rintro rv h r ⟨rfl, rfl, rfl⟩ -
            refine wq_goto (tgt := 89) rfl rfl ?_
            refine wq_istore (i := 4) (q := 91) rfl rfl (Nat.le_of_ble_eq_true rfl) rfl ?_
            refine wq_iinc (i := 5) (n := 1) (q := 94) rfl rfl rfl (Nat.le_of_ble_eq_true rfl) rfl (by first | omega | (simp [hup]; omega)) (by first | omega | (simp [hup]; omega)) ?_
            refine wq_goto (tgt := 8) rfl rfl ?_
            have hfd := hfr (by omega)
            refine ih _ (by omega) (d + 1) _ _ rfl (by omega) (by omega) (step _ ?_ ?_ ?_)
            · omega
            · first
              | exact Or.inl rfl
              | (exfalso; omega)
              | exact Or.inr ⟨by omega, by assumption, by omega, by omega, ev.symm⟩
            · intro y1 y2 y3 y4
              first
              | exact absurd y2 (by assumption)
              | omega
      · skip
        refine wq_aload_n (kk := 0) (q := 29) rfl rfl rfl ?_
        refine wq_getF (q := 32) f_Mo_17 rfl rfl (Nat.le_of_ble_eq_true rfl) rfl rfl rfl ?_
        refine wq_iload (i := 5) (q := 34) rfl rfl rfl ?_
        refine wq_iconst (n := 1) (q := 35) rfl rfl rfl ?_
        refine wq_callS (q := 38) (m' := m_Mo_at) (R' := rm 1) (As := [_, _]) rfl rfl l_Mo_209 sm_Mo_at rfl (Nat.le_of_ble_eq_true rfl) (Nat.le_of_ble_eq_true rfl) (Nat.le_refl _) (Nat.le_refl _) (Nat.le_of_ble_eq_true rfl) (Mo_at_ok d 1 h r (by omega) (by omega)) rfl ?_
        rintro rv h r ⟨rfl, rfl, rfl⟩ -
        refine wq_iald (q := 39) rfl (Or.inl ⟨rfl, Nat.le_of_ble_eq_true rfl⟩) rfl rfl (by first | omega | (simp [hup]; omega)) (by first | omega | (simp [hup]; omega)) ?_
        refine wq_iload_n (kk := 1) (q := 40) rfl rfl rfl ?_
        refine wq_icmp_ne (tgt := 57) (q := 43) rfl rfl rfl (fun c40 => ?_) (fun c40 => ?_)
        · skip
          refine wq_iconst (n := 0) (q := 58) rfl rfl rfl ?_
          refine wq_istore (i := 6) (q := 60) rfl rfl (Nat.le_of_ble_eq_true rfl) rfl ?_
          refine wq_iload (i := 6) (q := 62) rfl rfl rfl ?_
          refine wq_if_eq (tgt := 87) (q := 65) rfl rfl rfl (fun c62 => ?_) (fun c62 => ?_)
          · skip
            refine wq_iload (i := 4) (q := 89) rfl rfl rfl ?_
            refine wq_istore (i := 4) (q := 91) rfl rfl (Nat.le_of_ble_eq_true rfl) rfl ?_
            refine wq_iinc (i := 5) (n := 1) (q := 94) rfl rfl rfl (Nat.le_of_ble_eq_true rfl) rfl (by first | omega | (simp [hup]; omega)) (by first | omega | (simp [hup]; omega)) ?_
            refine wq_goto (tgt := 8) rfl rfl ?_
            have hfd := hfr (by omega)
            refine ih _ (by omega) (d + 1) _ _ rfl (by omega) (by omega) (step _ ?_ ?_ ?_)
            · omega
            · first
              | exact Or.inl rfl
              | (exfalso; omega)
              | exact Or.inr ⟨by omega, by assumption, by omega, by omega, ev.symm⟩
            · intro y1 y2 y3 y4
              first
              | exact absurd y2 (by assumption)
              | omega
          · skip
            refine wq_aload_n (kk := 0) (q := 66) rfl rfl rfl ?_
            refine wq_iload (i := 5) (q := 68) rfl rfl rfl ?_
            refine wq_iload_n (kk := 3) (q := 69) rfl rfl rfl ?_
            refine wq_callV (q := 72) (m' := m_Mo_soonest) (R' := rm 1) (As := [_, _]) rfl rfl l_Mo_316 vm_Mo_soonest rfl rfl rfl (Or.inl ⟨rfl, Nat.le_of_ble_eq_true rfl⟩) (Nat.le_of_ble_eq_true rfl) (Nat.le_of_ble_eq_true rfl) (Nat.le_refl _) (Nat.le_refl _) (Nat.le_of_ble_eq_true rfl) (Mo_soonest_ok d k h r (by omega) hk) rfl ?_
            rintro rv h r ⟨rfl, rfl, rfl⟩ -
            refine wq_iload (i := 4) (q := 74) rfl rfl rfl ?_
            refine wq_icmp_ge (tgt := 87) (q := 77) rfl rfl rfl (fun c74 => ?_) (fun c74 => ?_)
            · skip
              refine wq_iload (i := 4) (q := 89) rfl rfl rfl ?_
              refine wq_istore (i := 4) (q := 91) rfl rfl (Nat.le_of_ble_eq_true rfl) rfl ?_
              refine wq_iinc (i := 5) (n := 1) (q := 94) rfl rfl rfl (Nat.le_of_ble_eq_true rfl) rfl (by first | omega | (simp [hup]; omega)) (by first | omega | (simp [hup]; omega)) ?_
              refine wq_goto (tgt := 8) rfl rfl ?_
              have hfd := hfr (by omega)
              refine ih _ (by omega) (d + 1) _ _ rfl (by omega) (by omega) (step _ ?_ ?_ ?_)
              · omega
              · first
                | exact Or.inl rfl
                | (exfalso; omega)
                | exact Or.inr ⟨by omega, by assumption, by omega, by omega, ev.symm⟩
              · intro y1 y2 y3 y4
                first
                | exact absurd y2 (by assumption)
                | omega
            · skip
              refine wq_aload_n (kk := 0) (q := 78) rfl rfl rfl ?_
              refine wq_iload (i := 5) (q := 80) rfl rfl rfl ?_
              refine wq_iload_n (kk := 3) (q := 81) rfl rfl rfl ?_
              refine wq_callV (q := 84) (m' := m_Mo_soonest) (R' := rm 1) (As := [_, _]) rfl rfl l_Mo_316 vm_Mo_soonest rfl rfl rfl (Or.inl ⟨rfl, Nat.le_of_ble_eq_true rfl⟩) (Nat.le_of_ble_eq_true rfl) (Nat.le_of_ble_eq_true rfl) (Nat.le_refl _) (Nat.le_refl _) (Nat.le_of_ble_eq_true rfl) (Mo_soonest_ok d k h r (by omega) hk) rfl ?_
              rintro rv h r ⟨rfl, rfl, rfl⟩ -
              refine wq_goto (tgt := 89) rfl rfl ?_
              refine wq_istore (i := 4) (q := 91) rfl rfl (Nat.le_of_ble_eq_true rfl) rfl ?_
              refine wq_iinc (i := 5) (n := 1) (q := 94) rfl rfl rfl (Nat.le_of_ble_eq_true rfl) rfl (by first | omega | (simp [hup]; omega)) (by first | omega | (simp [hup]; omega)) ?_
              refine wq_goto (tgt := 8) rfl rfl ?_
              have hfd := hfr (by omega)
              refine ih _ (by omega) (d + 1) _ _ rfl (by omega) (by omega) (step _ ?_ ?_ ?_)
              · omega
              · first
                | exact Or.inl rfl
                | (exfalso; omega)
                | exact Or.inr ⟨by omega, by assumption, by omega, by omega, ev.symm⟩
              · intro y1 y2 y3 y4
                first
                | exact absurd y2 (by assumption)
                | omega
        · skip
          refine wq_aload_n (kk := 0) (q := 44) rfl rfl rfl ?_
          refine wq_iload (i := 5) (q := 46) rfl rfl rfl ?_
          refine wq_callV (q := 49) (m' := m_Mo_leavesAt) (R' := rm 2) (As := [_]) rfl rfl l_Mo_250 vm_Mo_leavesAt rfl rfl rfl (Or.inl ⟨rfl, Nat.le_of_ble_eq_true rfl⟩) (Nat.le_of_ble_eq_true rfl) (Nat.le_of_ble_eq_true rfl) (Nat.le_refl _) (Nat.le_refl _) (Nat.le_of_ble_eq_true rfl) (Mo_leavesAt_ok N d h r hM (hdp (by omega))) rfl ?_
          rintro rv h r ⟨rfl, rfl, rfl⟩ -
          refine wq_iload_n (kk := 2) (q := 50) rfl rfl rfl ?_
          refine wq_icmp_lt (tgt := 57) (q := 53) rfl rfl rfl (fun c50 => ?_) (fun c50 => ?_)
          · skip
            refine wq_iconst (n := 0) (q := 58) rfl rfl rfl ?_
            refine wq_istore (i := 6) (q := 60) rfl rfl (Nat.le_of_ble_eq_true rfl) rfl ?_
            refine wq_iload (i := 6) (q := 62) rfl rfl rfl ?_
            refine wq_if_eq (tgt := 87) (q := 65) rfl rfl rfl (fun c62 => ?_) (fun c62 => ?_)
            · skip
              refine wq_iload (i := 4) (q := 89) rfl rfl rfl ?_
              refine wq_istore (i := 4) (q := 91) rfl rfl (Nat.le_of_ble_eq_true rfl) rfl ?_
              refine wq_iinc (i := 5) (n := 1) (q := 94) rfl rfl rfl (Nat.le_of_ble_eq_true rfl) rfl (by first | omega | (simp [hup]; omega)) (by first | omega | (simp [hup]; omega)) ?_
              refine wq_goto (tgt := 8) rfl rfl ?_
              have hfd := hfr (by omega)
              refine ih _ (by omega) (d + 1) _ _ rfl (by omega) (by omega) (step _ ?_ ?_ ?_)
              · omega
              · first
                | exact Or.inl rfl
                | (exfalso; omega)
                | exact Or.inr ⟨by omega, by assumption, by omega, by omega, ev.symm⟩
              · intro y1 y2 y3 y4
                first
                | exact absurd y2 (by assumption)
                | omega
            · skip
              refine wq_aload_n (kk := 0) (q := 66) rfl rfl rfl ?_
              refine wq_iload (i := 5) (q := 68) rfl rfl rfl ?_
              refine wq_iload_n (kk := 3) (q := 69) rfl rfl rfl ?_
              refine wq_callV (q := 72) (m' := m_Mo_soonest) (R' := rm 1) (As := [_, _]) rfl rfl l_Mo_316 vm_Mo_soonest rfl rfl rfl (Or.inl ⟨rfl, Nat.le_of_ble_eq_true rfl⟩) (Nat.le_of_ble_eq_true rfl) (Nat.le_of_ble_eq_true rfl) (Nat.le_refl _) (Nat.le_refl _) (Nat.le_of_ble_eq_true rfl) (Mo_soonest_ok d k h r (by omega) hk) rfl ?_
              rintro rv h r ⟨rfl, rfl, rfl⟩ -
              refine wq_iload (i := 4) (q := 74) rfl rfl rfl ?_
              refine wq_icmp_ge (tgt := 87) (q := 77) rfl rfl rfl (fun c74 => ?_) (fun c74 => ?_)
              · skip
                refine wq_iload (i := 4) (q := 89) rfl rfl rfl ?_
                refine wq_istore (i := 4) (q := 91) rfl rfl (Nat.le_of_ble_eq_true rfl) rfl ?_
                refine wq_iinc (i := 5) (n := 1) (q := 94) rfl rfl rfl (Nat.le_of_ble_eq_true rfl) rfl (by first | omega | (simp [hup]; omega)) (by first | omega | (simp [hup]; omega)) ?_
                refine wq_goto (tgt := 8) rfl rfl ?_
                have hfd := hfr (by omega)
                refine ih _ (by omega) (d + 1) _ _ rfl (by omega) (by omega) (step _ ?_ ?_ ?_)
                · omega
                · first
                  | exact Or.inl rfl
                  | (exfalso; omega)
                  | exact Or.inr ⟨by omega, by assumption, by omega, by omega, ev.symm⟩
                · intro y1 y2 y3 y4
                  first
                  | exact absurd y2 (by assumption)
                  | omega
              · skip
                refine wq_aload_n (kk := 0) (q := 78) rfl rfl rfl ?_
                refine wq_iload (i := 5) (q := 80) rfl rfl rfl ?_
                refine wq_iload_n (kk := 3) (q := 81) rfl rfl rfl ?_
                refine wq_callV (q := 84) (m' := m_Mo_soonest) (R' := rm 1) (As := [_, _]) rfl rfl l_Mo_316 vm_Mo_soonest rfl rfl rfl (Or.inl ⟨rfl, Nat.le_of_ble_eq_true rfl⟩) (Nat.le_of_ble_eq_true rfl) (Nat.le_of_ble_eq_true rfl) (Nat.le_refl _) (Nat.le_refl _) (Nat.le_of_ble_eq_true rfl) (Mo_soonest_ok d k h r (by omega) hk) rfl ?_
                rintro rv h r ⟨rfl, rfl, rfl⟩ -
                refine wq_goto (tgt := 89) rfl rfl ?_
                refine wq_istore (i := 4) (q := 91) rfl rfl (Nat.le_of_ble_eq_true rfl) rfl ?_
                refine wq_iinc (i := 5) (n := 1) (q := 94) rfl rfl rfl (Nat.le_of_ble_eq_true rfl) rfl (by first | omega | (simp [hup]; omega)) (by first | omega | (simp [hup]; omega)) ?_
                refine wq_goto (tgt := 8) rfl rfl ?_
                have hfd := hfr (by omega)
                refine ih _ (by omega) (d + 1) _ _ rfl (by omega) (by omega) (step _ ?_ ?_ ?_)
                · omega
                · first
                  | exact Or.inl rfl
                  | (exfalso; omega)
                  | exact Or.inr ⟨by omega, by assumption, by omega, by omega, ev.symm⟩
                · intro y1 y2 y3 y4
                  first
                  | exact absurd y2 (by assumption)
                  | omega
          · skip
            refine wq_iconst (n := 1) (q := 54) rfl rfl rfl ?_
            refine wq_goto (tgt := 58) rfl rfl ?_
            refine wq_istore (i := 6) (q := 60) rfl rfl (Nat.le_of_ble_eq_true rfl) rfl ?_
            refine wq_iload (i := 6) (q := 62) rfl rfl rfl ?_
            refine wq_if_eq (tgt := 87) (q := 65) rfl rfl rfl (fun c62 => ?_) (fun c62 => ?_)
            · skip
              refine wq_iload (i := 4) (q := 89) rfl rfl rfl ?_
              refine wq_istore (i := 4) (q := 91) rfl rfl (Nat.le_of_ble_eq_true rfl) rfl ?_
              refine wq_iinc (i := 5) (n := 1) (q := 94) rfl rfl rfl (Nat.le_of_ble_eq_true rfl) rfl (by first | omega | (simp [hup]; omega)) (by first | omega | (simp [hup]; omega)) ?_
              refine wq_goto (tgt := 8) rfl rfl ?_
              have hfd := hfr (by omega)
              refine ih _ (by omega) (d + 1) _ _ rfl (by omega) (by omega) (step _ ?_ ?_ ?_)
              · omega
              · first
                | exact Or.inl rfl
                | (exfalso; omega)
                | exact Or.inr ⟨by omega, by assumption, by omega, by omega, ev.symm⟩
              · intro y1 y2 y3 y4
                first
                | exact absurd y2 (by assumption)
                | omega
            · skip
              refine wq_aload_n (kk := 0) (q := 66) rfl rfl rfl ?_
              refine wq_iload (i := 5) (q := 68) rfl rfl rfl ?_
              refine wq_iload_n (kk := 3) (q := 69) rfl rfl rfl ?_
              refine wq_callV (q := 72) (m' := m_Mo_soonest) (R' := rm 1) (As := [_, _]) rfl rfl l_Mo_316 vm_Mo_soonest rfl rfl rfl (Or.inl ⟨rfl, Nat.le_of_ble_eq_true rfl⟩) (Nat.le_of_ble_eq_true rfl) (Nat.le_of_ble_eq_true rfl) (Nat.le_refl _) (Nat.le_refl _) (Nat.le_of_ble_eq_true rfl) (Mo_soonest_ok d k h r (by omega) hk) rfl ?_
              rintro rv h r ⟨rfl, rfl, rfl⟩ -
              refine wq_iload (i := 4) (q := 74) rfl rfl rfl ?_
              refine wq_icmp_ge (tgt := 87) (q := 77) rfl rfl rfl (fun c74 => ?_) (fun c74 => ?_)
              · skip
                refine wq_iload (i := 4) (q := 89) rfl rfl rfl ?_
                refine wq_istore (i := 4) (q := 91) rfl rfl (Nat.le_of_ble_eq_true rfl) rfl ?_
                refine wq_iinc (i := 5) (n := 1) (q := 94) rfl rfl rfl (Nat.le_of_ble_eq_true rfl) rfl (by first | omega | (simp [hup]; omega)) (by first | omega | (simp [hup]; omega)) ?_
                refine wq_goto (tgt := 8) rfl rfl ?_
                have hfd := hfr (by omega)
                refine ih _ (by omega) (d + 1) _ _ rfl (by omega) (by omega) (step _ ?_ ?_ ?_)
                · omega
                · first
                  | exact Or.inl rfl
                  | (exfalso; omega)
                  | exact Or.inr ⟨by omega, by assumption, by omega, by omega, ev.symm⟩
                · intro y1 y2 y3 y4
                  first
                  | exact absurd y2 (by assumption)
                  | omega
              · skip
                refine wq_aload_n (kk := 0) (q := 78) rfl rfl rfl ?_
                refine wq_iload (i := 5) (q := 80) rfl rfl rfl ?_
                refine wq_iload_n (kk := 3) (q := 81) rfl rfl rfl ?_
                refine wq_callV (q := 84) (m' := m_Mo_soonest) (R' := rm 1) (As := [_, _]) rfl rfl l_Mo_316 vm_Mo_soonest rfl rfl rfl (Or.inl ⟨rfl, Nat.le_of_ble_eq_true rfl⟩) (Nat.le_of_ble_eq_true rfl) (Nat.le_of_ble_eq_true rfl) (Nat.le_refl _) (Nat.le_refl _) (Nat.le_of_ble_eq_true rfl) (Mo_soonest_ok d k h r (by omega) hk) rfl ?_
                rintro rv h r ⟨rfl, rfl, rfl⟩ -
                refine wq_goto (tgt := 89) rfl rfl ?_
                refine wq_istore (i := 4) (q := 91) rfl rfl (Nat.le_of_ble_eq_true rfl) rfl ?_
                refine wq_iinc (i := 5) (n := 1) (q := 94) rfl rfl rfl (Nat.le_of_ble_eq_true rfl) rfl (by first | omega | (simp [hup]; omega)) (by first | omega | (simp [hup]; omega)) ?_
                refine wq_goto (tgt := 8) rfl rfl ?_
                have hfd := hfr (by omega)
                refine ih _ (by omega) (d + 1) _ _ rfl (by omega) (by omega) (step _ ?_ ?_ ?_)
                · omega
                · first
                  | exact Or.inl rfl
                  | (exfalso; omega)
                  | exact Or.inr ⟨by omega, by assumption, by omega, by omega, ev.symm⟩
                · intro y1 y2 y3 y4
                  first
                  | exact absurd y2 (by assumption)
                  | omega
set_option maxRecDepth 100000 in
theorem Mo_soonestBy_ok (N : mN) (a t k : Int) (h : mH) (r : mR) (hM : isM h N) (hk : 0 ≤ k ∧ k < 120) : Meets true (rm 3) m_Mo_soonestBy [vR 64, vI a, vI t, vI k] h r (fun rv h1 r1 => ∃ s, rv = some (vI s) ∧ h1 = h ∧ r1 = r ∧ Sk N a t 9999 (Vr h k) s) := by
  have hn := hM.1.1
  refine ⟨ok_Mo_soonestBy, Nat.le_of_ble_eq_true rfl, ?_⟩
  refine wq_sipush (n := 9999) (q := 3) rfl rfl rfl ?_
  refine wq_istore (i := 4) (q := 5) rfl rfl (Nat.le_of_ble_eq_true rfl) rfl ?_
  refine wq_iconst (n := 0) (q := 6) rfl rfl rfl ?_
  refine wq_istore (i := 5) (q := 8) rfl rfl (Nat.le_of_ble_eq_true rfl) rfl ?_
  exact Mo_soonestByL N a t k h r hM hk _ 0 _ none rfl (by omega) (by omega) ⟨Or.inl rfl, Int.le_refl _, fun e e0 e1 => by have := e1.1; omega⟩
theorem wiq {h h1 : mH} (f : f64 [28] wiC h h1) : f64 qF qK h h1 := f.mono (by decide) (by decide)
theorem kP_in {n a b t k : Int} : (if kP n a b (bI (isT t)) = 0 ∧ ¬ (0 ≤ k ∧ k ≤ 20) then 2 else kP n a b (bI (isT t))) = kP n a b (bI (isT t ∧ 0 ≤ k ∧ k ≤ 20)) := by
  unfold kP
  by_cases h1 : (0 ≤ a ∧ a < n) ∧ 0 ≤ b ∧ b < n
  · rw [if_pos h1, if_pos h1]
    by_cases h2 : isT t
    · rw [bI_t h2]
      by_cases h3 : 0 ≤ k ∧ k ≤ 20
      · rw [bI_t ⟨h2, h3⟩]; simp [h3]
      · rw [bI_f (fun z => h3 z.2)]; simp [h3]
    · rw [bI_f h2, bI_f (fun z => h2 z.1)]; simp
  · rw [if_neg h1, if_neg h1]; simp
set_option maxRecDepth 100000 in
set_option maxHeartbeats 1000000 in
theorem Mo_withinA (a b t k k1 x5 : Int) (N : mN) (h : mH) (r : mR) (hI : mI h N) (hk : kP (nS N) a b (bI (isT t ∧ 0 ≤ k ∧ k ≤ 20)) = k1) : WP (true, rm 6) m_Mo_within (rt m_Mo_within (rm 6) (rqQ h r (Ans (kP (nS N) a b (bI (isT t ∧ 0 ≤ k ∧ k ≤ 20))) (Wq N a b t k)))) 32 [some (vR 64), some (vI a), some (vI b), some (vI t), some (vI k), some (vI x5), none] [vI k1, vR 64] h r (0, 0) := by
  refine wq_callV (q := 35) (m' := m_Mo_isRefused) (R' := rm 1) (As := [_]) rfl rfl l_Mo_228 vm_Mo_isRefused rfl rfl rfl (Or.inl ⟨rfl, Nat.le_of_ble_eq_true rfl⟩) (Nat.le_of_ble_eq_true rfl) (Nat.le_of_ble_eq_true rfl) (Nat.le_refl _) (Nat.le_refl _) (Nat.le_of_ble_eq_true rfl) (Mo_isRefused_ok k1 h r) rfl ?_
  rintro rv h1 r ⟨rfl, rfl, rfl⟩ -
  have f1 := x_ref_f (S := qF) (C := qK) (h := h) (k := k1) (by decide) (by decide) (by decide) (by decide)
  have I1 := mI_f hI f1 (by decide) (by decide)
  refine wq_cif_eq (tgt := 40) (q := 38) rfl rfl rfl (fun c35 => ?_) (fun c35 => ?_)
  · skip
    have k0 : k1 = 0 := by simpa using c35
    subst k0
    have hab := kP_0 hk
    have ht := bI_ne hab.2
    refine wq_iload_n (kk := 1) (q := 41) rfl rfl rfl ?_
    refine wq_iload_n (kk := 2) (q := 42) rfl rfl rfl ?_
    refine wq_icmp_ne (tgt := 47) (q := 45) rfl rfl rfl (fun c42 => ?_) (fun c42 => ?_)
    · skip
      refine wq_aload_n (kk := 0) (q := 48) rfl rfl rfl ?_
      refine wq_iload_n (kk := 2) (q := 49) rfl rfl rfl ?_
      refine wq_bipush (n := 20) (q := 51) rfl rfl rfl ?_
      refine wq_callV (q := 54) (m' := m_Mo_laysWithin) (R' := rm 5) (As := [_, _]) rfl rfl l_Mo_319 vm_Mo_laysWithin rfl rfl rfl (Or.inl ⟨rfl, Nat.le_of_ble_eq_true rfl⟩) (Nat.le_of_ble_eq_true rfl) (Nat.le_of_ble_eq_true rfl) (Nat.le_refl _) (Nat.le_refl _) (Nat.le_of_ble_eq_true rfl) (Mo_laysWithin_ok N b 20 _ r I1.1 (by omega)) rfl ?_
      rintro rv h2 r ⟨rfl, rfl, f2, hVt⟩ -
      have hM2 := isM_f I1.1 f2.1 (by decide)
      have e1 : h2 64 1 = 0 := by rw [f2.2 1 (by decide)]; exact x_ref_1
      have f3 := f1.tr (wiq f2) (fun _ y => y) (fun _ y => y)
      refine wq_aload_n (kk := 0) (q := 55) rfl rfl rfl ?_
      refine wq_iload_n (kk := 1) (q := 56) rfl rfl rfl ?_
      refine wq_iload_n (kk := 3) (q := 57) rfl rfl rfl ?_
      refine wq_iload (i := 4) (q := 59) rfl rfl rfl ?_
      refine wq_callV (q := 62) (m' := m_Mo_soonestBy) (R' := rm 3) (As := [_, _, _]) rfl rfl l_Mo_322 vm_Mo_soonestBy rfl rfl rfl (Or.inl ⟨rfl, Nat.le_of_ble_eq_true rfl⟩) (Nat.le_of_ble_eq_true rfl) (Nat.le_of_ble_eq_true rfl) (Nat.le_refl _) (Nat.le_refl _) (Nat.le_of_ble_eq_true rfl) (Mo_soonestBy_ok N a t k h2 r hM2 (by omega)) rfl ?_
      rintro rv h2 r ⟨s, rfl, rfl, rfl, hSk⟩ -
      refine wq_istore (i := 6) (q := 64) rfl rfl (Nat.le_of_ble_eq_true rfl) rfl ?_
      refine wq_iload (i := 6) (q := 66) rfl rfl rfl ?_
      refine wq_sipush (n := 9999) (q := 69) rfl rfl rfl ?_
      refine wq_icmp_ne (tgt := 77) (q := 72) rfl rfl rfl (fun c69 => ?_) (fun c69 => ?_)
      · skip
        refine wq_iload (i := 6) (q := 79) rfl rfl rfl ?_
        refine wq_iret rfl rfl (Nat.le_refl _) (Nat.le_refl _) ⟨_, rfl, rfl, Or.inr ⟨hk, e1, Or.inr ⟨c42, 9999, Vr h2, s, by decide, hVt.mono (by omega), hSk, ?_⟩⟩, by omega, f3⟩
        first | exact (if_pos c69).symm | exact (if_neg c69).symm
      · skip
        refine wq_bipush (n := -2) (q := 74) rfl rfl rfl ?_
        refine wq_goto (tgt := 79) rfl rfl ?_
        refine wq_iret rfl rfl (Nat.le_refl _) (Nat.le_refl _) ⟨_, rfl, rfl, Or.inr ⟨hk, e1, Or.inr ⟨c42, 9999, Vr h2, s, by decide, hVt.mono (by omega), hSk, ?_⟩⟩, by omega, f3⟩
        first | exact (if_pos c69).symm | exact (if_neg c69).symm
    · skip
      refine wq_iload_n (kk := 3) (q := 46) rfl rfl rfl ?_
      exact wq_iret rfl rfl (Nat.le_refl _) (Nat.le_refl _) ⟨_, rfl, rfl, Or.inr ⟨hk, x_ref_1, Or.inl ⟨c42, rfl⟩⟩, by rw [x_ref_1]; decide, f1⟩
  · skip
    refine wq_iconst (n := -1) (q := 39) rfl rfl rfl ?_
    exact wq_iret rfl rfl (Nat.le_refl _) (Nat.le_refl _) ⟨_, rfl, rfl, Or.inl ⟨by omega, rfl, by rw [x_ref_1, hk]⟩, by rw [x_ref_1]; have := kP_b (n := nS N) (a := a) (b := b) (g := bI (isT t ∧ 0 ≤ k ∧ k ≤ 20)); omega, f1⟩
set_option maxRecDepth 100000 in
set_option maxHeartbeats 1000000 in
theorem Mo_within_ok (a b t k : Int) (N : mN) (h : mH) (r : mR) (hI : mI h N) : Meets true (rm 6) m_Mo_within [vR 64, vI a, vI b, vI t, vI k] h r (rqQ h r (Ans (kP (nS N) a b (bI (isT t ∧ 0 ≤ k ∧ k ≤ 20))) (Wq N a b t k))) := by
  refine ⟨ok_Mo_within, Nat.le_of_ble_eq_true rfl, ?_⟩
  refine wq_aload_n (kk := 0) (q := 1) rfl rfl rfl ?_
  refine wq_iload_n (kk := 1) (q := 2) rfl rfl rfl ?_
  refine wq_iload_n (kk := 2) (q := 3) rfl rfl rfl ?_
  refine wq_iload_n (kk := 3) (q := 4) rfl rfl rfl ?_
  refine wq_callV (q := 7) (m' := m_Mo_wayWhy) (R' := rm 3) (As := [_, _, _]) rfl rfl l_Mo_307 vm_Mo_wayWhy rfl rfl rfl (Or.inl ⟨rfl, Nat.le_of_ble_eq_true rfl⟩) (Nat.le_of_ble_eq_true rfl) (Nat.le_of_ble_eq_true rfl) (Nat.le_refl _) (Nat.le_refl _) (Nat.le_of_ble_eq_true rfl) (Mo_wayWhy_ok a b t N h r hI) rfl ?_
  rintro rv h r ⟨rfl, rfl, rfl⟩ -
  refine wq_istore (i := 5) (q := 9) rfl rfl (Nat.le_of_ble_eq_true rfl) rfl ?_
  refine wq_aload_n (kk := 0) (q := 10) rfl rfl rfl ?_
  refine wq_iload (i := 5) (q := 12) rfl rfl rfl ?_
  refine wq_if_ne (tgt := 30) (q := 15) rfl rfl rfl (fun c12 => ?_) (fun c12 => ?_)
  · skip
    refine wq_iload (i := 5) (q := 32) rfl rfl rfl ?_
    refine Mo_withinA a b t k _ _ N h r hI ?_
    rw [← kP_in]
    first
    | exact if_pos ⟨by omega, c23⟩
    | exact if_neg (fun z => c12 z.1)
    | exact if_neg (fun z => z.2 c23)
  · skip
    refine wq_iload (i := 4) (q := 17) rfl rfl rfl ?_
    refine wq_iconst (n := 0) (q := 18) rfl rfl rfl ?_
    refine wq_bipush (n := 20) (q := 20) rfl rfl rfl ?_
    refine wq_callS (q := 23) (m' := m_Mo_in) (R' := rm 1) (As := [_, _, _]) rfl rfl l_Mo_107 sm_Mo_in rfl (Nat.le_of_ble_eq_true rfl) (Nat.le_of_ble_eq_true rfl) (Nat.le_refl _) (Nat.le_refl _) (Nat.le_of_ble_eq_true rfl) (Mo_in_ok _ _ _ h r) rfl ?_
    rintro rv h r ⟨rfl, rfl, rfl⟩ -
    refine wq_cif_ne (tgt := 30) (q := 26) rfl rfl rfl (fun c23 => ?_) (fun c23 => ?_)
    · skip
      refine wq_iload (i := 5) (q := 32) rfl rfl rfl ?_
      refine Mo_withinA a b t k _ _ N h r hI ?_
      rw [← kP_in]
      first
      | exact if_pos ⟨by omega, c23⟩
      | exact if_neg (fun z => c12 z.1)
      | exact if_neg (fun z => z.2 c23)
    · skip
      refine wq_iconst (n := 2) (q := 27) rfl rfl rfl ?_
      refine wq_goto (tgt := 32) rfl rfl ?_
      refine Mo_withinA a b t k _ _ N h r hI ?_
      rw [← kP_in]
      first
      | exact if_pos ⟨by omega, c23⟩
      | exact if_neg (fun z => c12 z.1)
      | exact if_neg (fun z => z.2 c23)
theorem Ls_ex {N : mN} {a t s : Int} {v : mF} (hV : NV N) (h : ∃ d, dp N d ∧ rn N d = 1 ∧ frm N d = a ∧ t ≤ lv N d ∧ v d = s) : ∃ w, Ls N a t v s w := by
  have : ∀ k : Nat, (∃ d : Int, d < (k : Int) ∧ dp N d ∧ rn N d = 1 ∧ frm N d = a ∧ t ≤ lv N d ∧ v d = s) → ∃ w, (∃ d, dp N d ∧ rn N d = 1 ∧ frm N d = a ∧ t ≤ lv N d ∧ v d = s ∧ w = lv N d) ∧ ∀ d : Int, d < (k : Int) → dp N d → rn N d = 1 → frm N d = a → t ≤ lv N d → v d = s → lv N d ≤ w := by
    intro k
    induction k with
    | zero => rintro ⟨d, d0, d1, -⟩; have := d1.1; omega
    | succ k ih =>
      rintro ⟨d, d0, d1⟩
      by_cases hk : dp N k ∧ rn N k = 1 ∧ frm N k = a ∧ t ≤ lv N k ∧ v k = s
      · by_cases he : ∃ d, d < (k : Int) ∧ dp N d ∧ rn N d = 1 ∧ frm N d = a ∧ t ≤ lv N d ∧ v d = s
        · obtain ⟨w, w1, w2⟩ := ih he
          by_cases hw : w ≤ lv N k
          · refine ⟨lv N k, ⟨k, hk.1, hk.2.1, hk.2.2.1, hk.2.2.2.1, hk.2.2.2.2, rfl⟩, fun x x0 x1 x2 x3 x4 x5 => ?_⟩
            by_cases ex : x = k
            · rw [ex]; exact Int.le_refl _
            · have := w2 x (by omega) x1 x2 x3 x4 x5; omega
          · refine ⟨w, w1, fun x x0 x1 x2 x3 x4 x5 => ?_⟩
            by_cases ex : x = k
            · rw [ex]; omega
            · exact w2 x (by omega) x1 x2 x3 x4 x5
        · refine ⟨lv N k, ⟨k, hk.1, hk.2.1, hk.2.2.1, hk.2.2.2.1, hk.2.2.2.2, rfl⟩, fun x x0 x1 x2 x3 x4 x5 => ?_⟩
          by_cases ex : x = k
          · rw [ex]; exact Int.le_refl _
          · exact absurd ⟨x, by omega, x1, x2, x3, x4, x5⟩ he
      · have dk : d ≠ k := fun e => hk (e ▸ d1)
        obtain ⟨w, w1, w2⟩ := ih ⟨d, by omega, d1⟩
        refine ⟨w, w1, fun x x0 x1 x2 x3 x4 x5 => ?_⟩
        by_cases ex : x = k
        · exact absurd (ex ▸ ⟨x1, x2, x3, x4, x5⟩) hk
        · exact w2 x (by omega) x1 x2 x3 x4 x5
  obtain ⟨d, d1⟩ := h
  have hn := hV.1
  obtain ⟨w, w1, w2⟩ := this 121 ⟨d, by have := d1.1.2; omega, d1⟩
  exact ⟨w, w1, fun x x1 => w2 x (by have := x1.2; omega) x1⟩
abbrev tdC : List Nat := [64, 77, 78, 79, 80]
/-- the trades are laid -/
def trd (N : mN) (a b t : Int) (h : mH) : Prop := Vt N b 9999 (Vr h) 119 ∧ (0 ≤ h 64 32 ∧ h 64 32 ≤ 120) ∧ ∃ S : mF, (∀ j, -1 ≤ j → j ≤ 119 → Sk N a t 9999 (Vr h j) (S j)) ∧ TrL S 119 (h 64 32) (h 79) (h 80)
theorem Vr_c {h h1 : mH} (f : h1 78 = h 78) : Vr h1 = Vr h := by
  funext k d
  unfold Vr
  rw [f]
theorem Sk_m1 {N : mN} {a t : Int} {v : mF} (hv : ∀ d, v d = 9999) : Sk N a t 9999 v 9999 := ⟨Or.inl rfl, Int.le_refl _, fun d _ _ _ _ => by rw [hv d]; exact Int.le_refl _⟩
theorem Vt_le {N : mN} (hV : NV N) {b K : Int} {V : Int → mF} (h : Vt N b 9999 V K) {k : Int} (k0 : 0 ≤ k) (k1 : k ≤ K) {d : Int} (hd : dp N d) (hr : rn N d = 1) : V k d ≤ V (k - 1) d := by
  have := Vt.anti hV (by decide) h _ d hd hr rfl k.toNat (by omega)
  rw [show ((k.toNat : Nat) : Int) = k by omega] at this
  exact this
theorem TrL_y {S S' : mF} {k c : Int} {te tc te' tc' : mF} (h : TrL S (k - 1) c te tc) (k0 : 0 ≤ k) (hs : ∀ j, j < k → S' j = S j) (hl : S' k < S' (k - 1)) (u1 : te' c = S' k) (u2 : tc' c = k) (hu : ∀ i, i ≠ c → te' i = te i ∧ tc' i = tc i) : TrL S' k (c + 1) te' tc' := by
  obtain ⟨a1, a2, a3, a4⟩ := h
  refine ⟨by omega, fun i i0 i1 => ?_, fun i j i0 ij j1 => ?_, fun j j0 j1 hj => ?_⟩
  · by_cases e : i = c
    · subst e; rw [u1, u2]; exact ⟨k0, Int.le_refl _, hl, rfl⟩
    · obtain ⟨b1, b2, b3, b4⟩ := a2 i i0 (by omega)
      rw [(hu i e).1, (hu i e).2, hs _ (by omega), hs _ (by omega)]
      exact ⟨b1, by omega, b3, b4⟩
  · rw [(hu i (by omega)).2]
    by_cases e : j = c
    · subst e; rw [u2]; have := a2 i i0 (by omega); omega
    · rw [(hu j e).2]; exact a3 i j i0 ij (by omega)
  · by_cases e : j = k
    · exact ⟨c, by omega, by omega, by rw [u2, e]⟩
    · rw [hs _ (by omega), hs _ (by omega)] at hj
      obtain ⟨i, i0, i1, i2⟩ := a4 j j0 (by omega) hj
      exact ⟨i, i0, by omega, by rw [(hu i (by omega)).2]; exact i2⟩
theorem TrL_n {S S' : mF} {k c : Int} {te tc : mF} (h : TrL S (k - 1) c te tc) (hs : ∀ j, j < k → S' j = S j) (hl : ¬ S' k < S' (k - 1)) : TrL S' k c te tc := by
  obtain ⟨a1, a2, a3, a4⟩ := h
  refine ⟨a1, fun i i0 i1 => ?_, a3, fun j j0 j1 hj => ?_⟩
  · obtain ⟨b1, b2, b3, b4⟩ := a2 i i0 i1
    rw [hs _ (by omega), hs _ (by omega)]
    exact ⟨b1, by omega, b3, b4⟩
  · by_cases e : j = k
    · rw [e] at hj; exact absurd hj hl
    · rw [hs _ (by omega), hs _ (by omega)] at hj
      exact a4 j j0 (by omega) hj
set_option maxRecDepth 100000 in
set_option maxHeartbeats 1000000 in
theorem Mo_tradesL (N : mN) (a b t : Int) (h : mH) (r : mR) (hM : isM h N) (V : Int → mF) (hVt : Vt N b 9999 V 119) : ∀ (M : Nat) (k l : Int) (h1 : mH) (S : mF) (x6 : Option mV), (120 - k).toNat = M → 0 ≤ k → k ≤ 120 → f64 [28, 32] tdC h h1 → Vr h1 = V → (∀ j, -1 ≤ j → j < k → Sk N a t 9999 (V j) (S j)) → l = S (k - 1) → TrL S (k - 1) (h1 64 32) (h1 79) (h1 80) → h1 64 32 ≤ k → WP (true, rm 6) m_Mo_laysTrades (rt m_Mo_laysTrades (rm 6) (fun rv h2 r2 => rv = none ∧ r2 = r ∧ f64 [28, 32] tdC h h2 ∧ trd N a b t h2)) 20 [some (vR 64), some (vI a), some (vI b), some (vI t), some (vI l), some (vI k), x6] [] h1 r (0, 0) := by
  intro M
  induction M using Nat.strongRecOn with
  | ind M ih =>
    intro k l h1 S x6 hN k0 k1 hf eV hSk hl hT hc
    have hV := hM.1
    have hM1 := isM_f hM hf.1 (by decide)
    have hT0 := hT.1
    refine wq_iload (i := 5) (q := 22) rfl rfl rfl ?_
    refine wq_bipush (n := 120) (q := 24) rfl rfl rfl ?_
    refine wq_icmp_ge (tgt := 86) (q := 27) rfl rfl rfl (fun c24 => ?_) (fun c24 => ?_)
    · skip
      have ek : k = 120 := by omega
      subst ek
      exact wq_vret rfl rfl (Nat.le_refl _) (Nat.le_refl _) ⟨rfl, rfl, hf, by rw [eV]; exact hVt, by omega, S, fun j j0 j1 => by rw [eV]; exact hSk j j0 (by omega), hT⟩
    · skip
      refine wq_aload_n (kk := 0) (q := 28) rfl rfl rfl ?_
      refine wq_iload_n (kk := 1) (q := 29) rfl rfl rfl ?_
      refine wq_iload_n (kk := 3) (q := 30) rfl rfl rfl ?_
      refine wq_iload (i := 5) (q := 32) rfl rfl rfl ?_
      refine wq_callV (q := 35) (m' := m_Mo_soonestBy) (R' := rm 3) (As := [_, _, _]) rfl rfl l_Mo_322 vm_Mo_soonestBy rfl rfl rfl (Or.inl ⟨rfl, Nat.le_of_ble_eq_true rfl⟩) (Nat.le_of_ble_eq_true rfl) (Nat.le_of_ble_eq_true rfl) (Nat.le_refl _) (Nat.le_refl _) (Nat.le_of_ble_eq_true rfl) (Mo_soonestBy_ok N a t k h1 r hM1 (by omega)) rfl ?_
      rintro rv h1 r ⟨s, rfl, rfl, rfl, hs⟩ -
      rw [eV] at hs
      have hS' : ∀ j, -1 ≤ j → j < k + 1 → Sk N a t 9999 (V j) (up S k s j) := fun j j0 j1 => by
        by_cases e : j = k
        · subst e; rw [up_s]; exact hs
        · rw [up_n e]; exact hSk j j0 (by omega)
      have ek : up S k s k = s := up_s
      have ek1 : up S k s (k - 1) = S (k - 1) := up_n (by omega)
      have hle : s ≤ S (k - 1) := (hSk (k - 1) (by omega) (by omega)).anti hs (fun d hd hr => Vt_le hV hVt k0 (by omega) hd hr)
      refine wq_istore (i := 6) (q := 37) rfl rfl (Nat.le_of_ble_eq_true rfl) rfl ?_
      refine wq_iload (i := 6) (q := 39) rfl rfl rfl ?_
      refine wq_iload (i := 4) (q := 41) rfl rfl rfl ?_
      refine wq_icmp_ge (tgt := 80) (q := 44) rfl rfl rfl (fun c41 => ?_) (fun c41 => ?_)
      · skip
        refine wq_iinc (i := 5) (n := 1) (q := 83) rfl rfl rfl (Nat.le_of_ble_eq_true rfl) rfl (by first | omega | (simp [hup]; omega)) (by first | omega | (simp [hup]; omega)) ?_
        refine wq_goto (tgt := 20) rfl rfl ?_
        first
        | (refine ih _ (by omega) (k + 1) _ _ (up S k s) _ rfl (by omega) (by omega) (((hf.uc (by decide) (by decide)).uc (by decide) (by decide)).up (by decide) (by decide)) ?_ hS' (by rw [show k + 1 - 1 = k by omega, ek]) ?_ ?_
           · rw [← eV]; exact Vr_c (by funext j; rw [hup_i (by decide), hup_i (by decide), hup_i (by decide)])
           · rw [show k + 1 - 1 = k by omega, hup_s]
             refine TrL_y hT k0 (fun j hj => up_n (by omega)) (by rw [ek, ek1]; omega) ?_ ?_ (fun i hi => ⟨?_, ?_⟩)
             · rw [ek, hup_i (by decide), hup_i (by decide), hup_s]
             · rw [hup_i (by decide), hup_s]
             · rw [hup_i (by decide), hup_i (by decide), hup_j hi]
             · rw [hup_i (by decide), hup_j hi, hup_i (by decide)]
           · rw [hup_s]; omega)
        | (refine ih _ (by omega) (k + 1) _ _ (up S k s) _ rfl (by omega) (by omega) hf eV hS' (by rw [show k + 1 - 1 = k by omega, ek]; omega) ?_ (by omega)
           rw [show k + 1 - 1 = k by omega]
           exact TrL_n hT (fun j hj => up_n (by omega)) (by rw [ek, ek1]; omega))
      · skip
        refine wq_aload_n (kk := 0) (q := 45) rfl rfl rfl ?_
        refine wq_getF (q := 48) f_Mo_57 rfl rfl (Nat.le_of_ble_eq_true rfl) rfl rfl rfl ?_
        refine wq_aload_n (kk := 0) (q := 49) rfl rfl rfl ?_
        refine wq_getI (kz := 32) (q := 52) rfl f_Mo_325 rfl rfl (Or.inl ⟨rfl, Nat.le_of_ble_eq_true rfl⟩) rfl rfl ?_
        refine wq_iload (i := 6) (q := 54) rfl rfl rfl ?_
        refine wq_iast (q := 55) rfl (Or.inl ⟨rfl, Nat.le_of_ble_eq_true rfl⟩) rfl rfl (by first | omega | (simp [hup]; omega)) (by first | omega | (simp [hup]; omega)) ?_
        refine wq_aload_n (kk := 0) (q := 56) rfl rfl rfl ?_
        refine wq_getF (q := 59) f_Mo_60 rfl rfl (Nat.le_of_ble_eq_true rfl) rfl rfl rfl ?_
        refine wq_aload_n (kk := 0) (q := 60) rfl rfl rfl ?_
        refine wq_getI (kz := 32) (q := 63) rfl f_Mo_325 rfl rfl (Or.inl ⟨rfl, Nat.le_of_ble_eq_true rfl⟩) rfl rfl ?_
        refine wq_iload (i := 5) (q := 65) rfl rfl rfl ?_
        refine wq_iast (q := 66) rfl (Or.inl ⟨rfl, Nat.le_of_ble_eq_true rfl⟩) rfl rfl (by first | omega | (simp [hup]; omega)) (by first | omega | (simp [hup]; omega)) ?_
        rw [show hup h1 79 (h1 64 32) s 64 32 = h1 64 32 from hup_i (by decide)]
        have e32 : hup (hup h1 79 (h1 64 32) s) 80 (h1 64 32) k 64 32 = h1 64 32 := by rw [hup_i (by decide), hup_i (by decide)]
        refine wq_aload_n (kk := 0) (q := 67) rfl rfl rfl ?_
        refine wq_dup (q := 68) rfl rfl rfl ?_
        refine wq_getI (kz := 32) (q := 71) rfl f_Mo_325 rfl rfl (Or.inl ⟨rfl, Nat.le_of_ble_eq_true rfl⟩) rfl rfl ?_
        refine wq_iconst (n := 1) (q := 72) rfl rfl rfl ?_
        refine wq_iadd (q := 73) rfl rfl (by first | omega | (simp [hup]; omega)) (by first | omega | (simp [hup]; omega)) ?_
        refine wq_putI (kz := 32) (q := 76) rfl f_Mo_325 rfl rfl rfl (Or.inl ⟨rfl, Nat.le_of_ble_eq_true rfl⟩) rfl rfl ?_
        rw [e32]
        refine wq_iload (i := 6) (q := 78) rfl rfl rfl ?_
        refine wq_istore (i := 4) (q := 80) rfl rfl (Nat.le_of_ble_eq_true rfl) rfl ?_
        refine wq_iinc (i := 5) (n := 1) (q := 83) rfl rfl rfl (Nat.le_of_ble_eq_true rfl) rfl (by first | omega | (simp [hup]; omega)) (by first | omega | (simp [hup]; omega)) ?_
        refine wq_goto (tgt := 20) rfl rfl ?_
        first
        | (refine ih _ (by omega) (k + 1) _ _ (up S k s) _ rfl (by omega) (by omega) (((hf.uc (by decide) (by decide)).uc (by decide) (by decide)).up (by decide) (by decide)) ?_ hS' (by rw [show k + 1 - 1 = k by omega, ek]) ?_ ?_
           · rw [← eV]; exact Vr_c (by funext j; rw [hup_i (by decide), hup_i (by decide), hup_i (by decide)])
           · rw [show k + 1 - 1 = k by omega, hup_s]
             refine TrL_y hT k0 (fun j hj => up_n (by omega)) (by rw [ek, ek1]; omega) ?_ ?_ (fun i hi => ⟨?_, ?_⟩)
             · rw [ek, hup_i (by decide), hup_i (by decide), hup_s]
             · rw [hup_i (by decide), hup_s]
             · rw [hup_i (by decide), hup_i (by decide), hup_j hi]
             · rw [hup_i (by decide), hup_j hi, hup_i (by decide)]
           · rw [hup_s]; omega)
        | (refine ih _ (by omega) (k + 1) _ _ (up S k s) _ rfl (by omega) (by omega) hf eV hS' (by rw [show k + 1 - 1 = k by omega, ek]; omega) ?_ (by omega)
           rw [show k + 1 - 1 = k by omega]
           exact TrL_n hT (fun j hj => up_n (by omega)) (by rw [ek, ek1]; omega))
set_option maxRecDepth 100000 in
set_option maxHeartbeats 1000000 in
theorem Mo_laysTrades_ok (N : mN) (a b t : Int) (h : mH) (r : mR) (hM : isM h N) : Meets true (rm 6) m_Mo_laysTrades [vR 64, vI a, vI b, vI t] h r (fun rv h2 r2 => rv = none ∧ r2 = r ∧ f64 [28, 32] tdC h h2 ∧ trd N a b t h2) := by
  refine ⟨ok_Mo_laysTrades, Nat.le_of_ble_eq_true rfl, ?_⟩
  refine wq_aload_n (kk := 0) (q := 1) rfl rfl rfl ?_
  refine wq_iload_n (kk := 2) (q := 2) rfl rfl rfl ?_
  refine wq_bipush (n := 119) (q := 4) rfl rfl rfl ?_
  refine wq_callV (q := 7) (m' := m_Mo_laysWithin) (R' := rm 5) (As := [_, _]) rfl rfl l_Mo_319 vm_Mo_laysWithin rfl rfl rfl (Or.inl ⟨rfl, Nat.le_of_ble_eq_true rfl⟩) (Nat.le_of_ble_eq_true rfl) (Nat.le_of_ble_eq_true rfl) (Nat.le_refl _) (Nat.le_refl _) (Nat.le_of_ble_eq_true rfl) (Mo_laysWithin_ok N b 119 h r hM (by omega)) rfl ?_
  rintro rv h1 r ⟨rfl, rfl, f1, hVt⟩ -
  refine wq_aload_n (kk := 0) (q := 8) rfl rfl rfl ?_
  refine wq_iconst (n := 0) (q := 9) rfl rfl rfl ?_
  refine wq_putI (kz := 32) (q := 12) rfl f_Mo_325 rfl rfl rfl (Or.inl ⟨rfl, Nat.le_of_ble_eq_true rfl⟩) rfl rfl ?_
  refine wq_sipush (n := 9999) (q := 15) rfl rfl rfl ?_
  refine wq_istore (i := 4) (q := 17) rfl rfl (Nat.le_of_ble_eq_true rfl) rfl ?_
  refine wq_iconst (n := 0) (q := 18) rfl rfl rfl ?_
  refine wq_istore (i := 5) (q := 20) rfl rfl (Nat.le_of_ble_eq_true rfl) rfl ?_
  refine Mo_tradesL N a b t h r hM (Vr h1) hVt _ 0 9999 _ (fun _ => 9999) none rfl (by omega) (by omega) ((f1.mono (by decide) (by decide)).up (by decide) (by decide)) (Vr_c (by funext j; rw [hup_i (by decide)])) (fun j j0 j1 => ?_) rfl ?_ (by rw [hup_s]; omega)
  · have : j = -1 := by omega
    subst this
    exact Sk_m1 (fun d => Vr_1)
  · rw [hup_s]
    exact ⟨Int.le_refl _, fun i i0 i1 => by omega, fun i j i0 ij j1 => by omega, fun k k0 k1 => by omega⟩
set_option maxRecDepth 100000 in
set_option maxHeartbeats 1000000 in
theorem Mo_latestOfL (N : mN) (a t k s : Int) (h : mH) (r : mR) (hM : isM h N) (hk : 0 ≤ k ∧ k < 120) : ∀ (M : Nat) (d v : Int) (x7 : Option mV), (nN N - d).toNat = M → 0 ≤ d → d ≤ nN N → LoI N h a t k s d v → WP (true, rm 3) m_Mo_latestOf (rt m_Mo_latestOf (rm 3) (fun rv h1 r1 => ∃ w, rv = some (vI w) ∧ h1 = h ∧ r1 = r ∧ (w = -2 ∨ ∃ e, dp N e ∧ rn N e = 1 ∧ frm N e = a ∧ t ≤ lv N e ∧ Vr h k e = s ∧ w = lv N e) ∧ ∀ e, dp N e → rn N e = 1 → frm N e = a → t ≤ lv N e → Vr h k e = s → lv N e ≤ w)) 7 [some (vR 64), some (vI a), some (vI t), some (vI k), some (vI s), some (vI v), some (vI d), x7] [] h r (0, 0) := by
  intro M
  induction M using Nat.strongRecOn with
  | ind M ih =>
    intro d v x7 hN d0 d1 hF
    have hV := hM.1
    have hn := hV.1
    have e4 := hM.2.1
    have hdp : d < nN N → dp N d := fun z => ⟨d0, z⟩
    have hfr : d < nN N → h 66 (25 + 8 * d + 1) = frm N d := fun z => (hM.2.2.2.1 d ⟨d0, z⟩).2.2.1
    have ev : Vr h k d = h 78 (120 * d + k) := Vr_k hk.1
    have step : ∀ w, v ≤ w → (w = v ∨ (d < nN N ∧ rn N d = 1 ∧ frm N d = a ∧ t ≤ lv N d ∧ Vr h k d = s ∧ w = lv N d)) → (d < nN N → rn N d = 1 → frm N d = a → t ≤ lv N d → Vr h k d = s → lv N d ≤ w) → LoI N h a t k s (d + 1) w := fun w w1 w2 w3 => by
      obtain ⟨a1, a2, a3⟩ := hF
      refine ⟨?_, by omega, fun e e0 e1 e2 e3 e5 e6 => ?_⟩
      · rcases w2 with rfl | ⟨b1, b2, b3, b5, b6, b7⟩
        · exact a1.imp id (fun ⟨e, c1, c2⟩ => ⟨e, by omega, c2⟩)
        · exact Or.inr ⟨d, by omega, ⟨d0, b1⟩, b2, b3, b5, b6, b7⟩
      · by_cases z : e = d
        · subst z; exact w3 e1.2 e2 e3 e5 e6
        · have := a3 e (by omega) e1 e2 e3 e5 e6; omega
    refine wq_iload (i := 6) (q := 9) rfl rfl rfl ?_
    refine wq_aload_n (kk := 0) (q := 10) rfl rfl rfl ?_
    refine wq_getF (q := 13) f_Mo_17 rfl rfl (Nat.le_of_ble_eq_true rfl) rfl rfl rfl ?_
    refine wq_iconst (n := 4) (q := 14) rfl rfl rfl ?_
    refine wq_iald (q := 15) rfl (Or.inl ⟨rfl, Nat.le_of_ble_eq_true rfl⟩) rfl rfl (by first | omega | (simp [hup]; omega)) (by first | omega | (simp [hup]; omega)) ?_
    refine wq_icmp_ge (tgt := 106) (q := 18) rfl rfl rfl (fun c15 => ?_) (fun c15 => ?_)
    · skip
      refine wq_iload (i := 5) (q := 108) rfl rfl rfl ?_
      refine wq_iret rfl rfl (Nat.le_refl _) (Nat.le_refl _) ⟨v, rfl, rfl, rfl, ?_⟩
      obtain ⟨a1, a2, a3⟩ := hF
      exact ⟨a1.imp id (fun ⟨e, c1, c2⟩ => ⟨e, c2⟩), fun e e1 e2 e3 e5 e6 => a3 e (by have := e1.2; omega) e1 e2 e3 e5 e6⟩
    · skip
      refine wq_aload_n (kk := 0) (q := 19) rfl rfl rfl ?_
      refine wq_iload (i := 6) (q := 21) rfl rfl rfl ?_
      refine wq_callV (q := 24) (m' := m_Mo_runs) (R' := rm 2) (As := [_]) rfl rfl l_Mo_253 vm_Mo_runs rfl rfl rfl (Or.inl ⟨rfl, Nat.le_of_ble_eq_true rfl⟩) (Nat.le_of_ble_eq_true rfl) (Nat.le_of_ble_eq_true rfl) (Nat.le_refl _) (Nat.le_refl _) (Nat.le_of_ble_eq_true rfl) (Mo_runs_ok N d h r hM (hdp (by omega))) rfl ?_
      rintro rv h r ⟨rfl, rfl, rfl⟩ -
      refine wq_cif_eq (tgt := 68) (q := 27) rfl rfl rfl (fun c24 => ?_) (fun c24 => ?_)
      · skip
        refine wq_iconst (n := 0) (q := 69) rfl rfl rfl ?_
        refine wq_istore (i := 7) (q := 71) rfl rfl (Nat.le_of_ble_eq_true rfl) rfl ?_
        refine wq_iload (i := 7) (q := 73) rfl rfl rfl ?_
        refine wq_if_eq (tgt := 96) (q := 76) rfl rfl rfl (fun c73 => ?_) (fun c73 => ?_)
        · skip
          refine wq_iload (i := 5) (q := 98) rfl rfl rfl ?_
          refine wq_istore (i := 5) (q := 100) rfl rfl (Nat.le_of_ble_eq_true rfl) rfl ?_
          refine wq_iinc (i := 6) (n := 1) (q := 103) rfl rfl rfl (Nat.le_of_ble_eq_true rfl) rfl (by first | omega | (simp [hup]; omega)) (by first | omega | (simp [hup]; omega)) ?_
          refine wq_goto (tgt := 7) rfl rfl ?_
          have hfd := hfr (by omega)
          refine ih _ (by omega) (d + 1) _ _ rfl (by omega) (by omega) (step _ ?_ ?_ ?_)
          · omega
          · first
            | exact Or.inl rfl
            | (exfalso; omega)
            | exact Or.inr ⟨by omega, by assumption, by omega, by omega, by omega, rfl⟩
          · intro y1 y2 y3 y4 y5
            first
            | exact absurd y2 (by assumption)
            | omega
        · skip
          refine wq_aload_n (kk := 0) (q := 77) rfl rfl rfl ?_
          refine wq_iload (i := 6) (q := 79) rfl rfl rfl ?_
          refine wq_callV (q := 82) (m' := m_Mo_leavesAt) (R' := rm 2) (As := [_]) rfl rfl l_Mo_250 vm_Mo_leavesAt rfl rfl rfl (Or.inl ⟨rfl, Nat.le_of_ble_eq_true rfl⟩) (Nat.le_of_ble_eq_true rfl) (Nat.le_of_ble_eq_true rfl) (Nat.le_refl _) (Nat.le_refl _) (Nat.le_of_ble_eq_true rfl) (Mo_leavesAt_ok N d h r hM (hdp (by omega))) rfl ?_
          rintro rv h r ⟨rfl, rfl, rfl⟩ -
          refine wq_iload (i := 5) (q := 84) rfl rfl rfl ?_
          refine wq_icmp_le (tgt := 96) (q := 87) rfl rfl rfl (fun c84 => ?_) (fun c84 => ?_)
          · skip
            refine wq_iload (i := 5) (q := 98) rfl rfl rfl ?_
            refine wq_istore (i := 5) (q := 100) rfl rfl (Nat.le_of_ble_eq_true rfl) rfl ?_
            refine wq_iinc (i := 6) (n := 1) (q := 103) rfl rfl rfl (Nat.le_of_ble_eq_true rfl) rfl (by first | omega | (simp [hup]; omega)) (by first | omega | (simp [hup]; omega)) ?_
            refine wq_goto (tgt := 7) rfl rfl ?_
            have hfd := hfr (by omega)
            refine ih _ (by omega) (d + 1) _ _ rfl (by omega) (by omega) (step _ ?_ ?_ ?_)
            · omega
            · first
              | exact Or.inl rfl
              | (exfalso; omega)
              | exact Or.inr ⟨by omega, by assumption, by omega, by omega, by omega, rfl⟩
            · intro y1 y2 y3 y4 y5
              first
              | exact absurd y2 (by assumption)
              | omega
          · skip
            refine wq_aload_n (kk := 0) (q := 88) rfl rfl rfl ?_
            refine wq_iload (i := 6) (q := 90) rfl rfl rfl ?_
            refine wq_callV (q := 93) (m' := m_Mo_leavesAt) (R' := rm 2) (As := [_]) rfl rfl l_Mo_250 vm_Mo_leavesAt rfl rfl rfl (Or.inl ⟨rfl, Nat.le_of_ble_eq_true rfl⟩) (Nat.le_of_ble_eq_true rfl) (Nat.le_of_ble_eq_true rfl) (Nat.le_refl _) (Nat.le_refl _) (Nat.le_of_ble_eq_true rfl) (Mo_leavesAt_ok N d h r hM (hdp (by omega))) rfl ?_
            rintro rv h r ⟨rfl, rfl, rfl⟩ -
            refine wq_goto (tgt := 98) rfl rfl ?_
            refine wq_istore (i := 5) (q := 100) rfl rfl (Nat.le_of_ble_eq_true rfl) rfl ?_
            refine wq_iinc (i := 6) (n := 1) (q := 103) rfl rfl rfl (Nat.le_of_ble_eq_true rfl) rfl (by first | omega | (simp [hup]; omega)) (by first | omega | (simp [hup]; omega)) ?_
            refine wq_goto (tgt := 7) rfl rfl ?_
            have hfd := hfr (by omega)
            refine ih _ (by omega) (d + 1) _ _ rfl (by omega) (by omega) (step _ ?_ ?_ ?_)
            · omega
            · first
              | exact Or.inl rfl
              | (exfalso; omega)
              | exact Or.inr ⟨by omega, by assumption, by omega, by omega, by omega, rfl⟩
            · intro y1 y2 y3 y4 y5
              first
              | exact absurd y2 (by assumption)
              | omega
      · skip
        refine wq_aload_n (kk := 0) (q := 28) rfl rfl rfl ?_
        refine wq_getF (q := 31) f_Mo_17 rfl rfl (Nat.le_of_ble_eq_true rfl) rfl rfl rfl ?_
        refine wq_iload (i := 6) (q := 33) rfl rfl rfl ?_
        refine wq_iconst (n := 1) (q := 34) rfl rfl rfl ?_
        refine wq_callS (q := 37) (m' := m_Mo_at) (R' := rm 1) (As := [_, _]) rfl rfl l_Mo_209 sm_Mo_at rfl (Nat.le_of_ble_eq_true rfl) (Nat.le_of_ble_eq_true rfl) (Nat.le_refl _) (Nat.le_refl _) (Nat.le_of_ble_eq_true rfl) (Mo_at_ok d 1 h r (by omega) (by omega)) rfl ?_
        rintro rv h r ⟨rfl, rfl, rfl⟩ -
        refine wq_iald (q := 38) rfl (Or.inl ⟨rfl, Nat.le_of_ble_eq_true rfl⟩) rfl rfl (by first | omega | (simp [hup]; omega)) (by first | omega | (simp [hup]; omega)) ?_
        refine wq_iload_n (kk := 1) (q := 39) rfl rfl rfl ?_
        refine wq_icmp_ne (tgt := 68) (q := 42) rfl rfl rfl (fun c39 => ?_) (fun c39 => ?_)
        · skip
          refine wq_iconst (n := 0) (q := 69) rfl rfl rfl ?_
          refine wq_istore (i := 7) (q := 71) rfl rfl (Nat.le_of_ble_eq_true rfl) rfl ?_
          refine wq_iload (i := 7) (q := 73) rfl rfl rfl ?_
          refine wq_if_eq (tgt := 96) (q := 76) rfl rfl rfl (fun c73 => ?_) (fun c73 => ?_)
          · skip
            refine wq_iload (i := 5) (q := 98) rfl rfl rfl ?_
            refine wq_istore (i := 5) (q := 100) rfl rfl (Nat.le_of_ble_eq_true rfl) rfl ?_
            refine wq_iinc (i := 6) (n := 1) (q := 103) rfl rfl rfl (Nat.le_of_ble_eq_true rfl) rfl (by first | omega | (simp [hup]; omega)) (by first | omega | (simp [hup]; omega)) ?_
            refine wq_goto (tgt := 7) rfl rfl ?_
            have hfd := hfr (by omega)
            refine ih _ (by omega) (d + 1) _ _ rfl (by omega) (by omega) (step _ ?_ ?_ ?_)
            · omega
            · first
              | exact Or.inl rfl
              | (exfalso; omega)
              | exact Or.inr ⟨by omega, by assumption, by omega, by omega, by omega, rfl⟩
            · intro y1 y2 y3 y4 y5
              first
              | exact absurd y2 (by assumption)
              | omega
          · skip
            refine wq_aload_n (kk := 0) (q := 77) rfl rfl rfl ?_
            refine wq_iload (i := 6) (q := 79) rfl rfl rfl ?_
            refine wq_callV (q := 82) (m' := m_Mo_leavesAt) (R' := rm 2) (As := [_]) rfl rfl l_Mo_250 vm_Mo_leavesAt rfl rfl rfl (Or.inl ⟨rfl, Nat.le_of_ble_eq_true rfl⟩) (Nat.le_of_ble_eq_true rfl) (Nat.le_of_ble_eq_true rfl) (Nat.le_refl _) (Nat.le_refl _) (Nat.le_of_ble_eq_true rfl) (Mo_leavesAt_ok N d h r hM (hdp (by omega))) rfl ?_
            rintro rv h r ⟨rfl, rfl, rfl⟩ -
            refine wq_iload (i := 5) (q := 84) rfl rfl rfl ?_
            refine wq_icmp_le (tgt := 96) (q := 87) rfl rfl rfl (fun c84 => ?_) (fun c84 => ?_)
            · skip
              refine wq_iload (i := 5) (q := 98) rfl rfl rfl ?_
              refine wq_istore (i := 5) (q := 100) rfl rfl (Nat.le_of_ble_eq_true rfl) rfl ?_
              refine wq_iinc (i := 6) (n := 1) (q := 103) rfl rfl rfl (Nat.le_of_ble_eq_true rfl) rfl (by first | omega | (simp [hup]; omega)) (by first | omega | (simp [hup]; omega)) ?_
              refine wq_goto (tgt := 7) rfl rfl ?_
              have hfd := hfr (by omega)
              refine ih _ (by omega) (d + 1) _ _ rfl (by omega) (by omega) (step _ ?_ ?_ ?_)
              · omega
              · first
                | exact Or.inl rfl
                | (exfalso; omega)
                | exact Or.inr ⟨by omega, by assumption, by omega, by omega, by omega, rfl⟩
              · intro y1 y2 y3 y4 y5
                first
                | exact absurd y2 (by assumption)
                | omega
            · skip
              refine wq_aload_n (kk := 0) (q := 88) rfl rfl rfl ?_
              refine wq_iload (i := 6) (q := 90) rfl rfl rfl ?_
              refine wq_callV (q := 93) (m' := m_Mo_leavesAt) (R' := rm 2) (As := [_]) rfl rfl l_Mo_250 vm_Mo_leavesAt rfl rfl rfl (Or.inl ⟨rfl, Nat.le_of_ble_eq_true rfl⟩) (Nat.le_of_ble_eq_true rfl) (Nat.le_of_ble_eq_true rfl) (Nat.le_refl _) (Nat.le_refl _) (Nat.le_of_ble_eq_true rfl) (Mo_leavesAt_ok N d h r hM (hdp (by omega))) rfl ?_
              rintro rv h r ⟨rfl, rfl, rfl⟩ -
              refine wq_goto (tgt := 98) rfl rfl ?_
              refine wq_istore (i := 5) (q := 100) rfl rfl (Nat.le_of_ble_eq_true rfl) rfl ?_
              refine wq_iinc (i := 6) (n := 1) (q := 103) rfl rfl rfl (Nat.le_of_ble_eq_true rfl) rfl (by first | omega | (simp [hup]; omega)) (by first | omega | (simp [hup]; omega)) ?_
              refine wq_goto (tgt := 7) rfl rfl ?_
              have hfd := hfr (by omega)
              refine ih _ (by omega) (d + 1) _ _ rfl (by omega) (by omega) (step _ ?_ ?_ ?_)
              · omega
              · first
                | exact Or.inl rfl
                | (exfalso; omega)
                | exact Or.inr ⟨by omega, by assumption, by omega, by omega, by omega, rfl⟩
              · intro y1 y2 y3 y4 y5
                first
                | exact absurd y2 (by assumption)
                | omega
        · skip
          refine wq_aload_n (kk := 0) (q := 43) rfl rfl rfl ?_
          refine wq_iload (i := 6) (q := 45) rfl rfl rfl ?_
          refine wq_callV (q := 48) (m' := m_Mo_leavesAt) (R' := rm 2) (As := [_]) rfl rfl l_Mo_250 vm_Mo_leavesAt rfl rfl rfl (Or.inl ⟨rfl, Nat.le_of_ble_eq_true rfl⟩) (Nat.le_of_ble_eq_true rfl) (Nat.le_of_ble_eq_true rfl) (Nat.le_refl _) (Nat.le_refl _) (Nat.le_of_ble_eq_true rfl) (Mo_leavesAt_ok N d h r hM (hdp (by omega))) rfl ?_
          rintro rv h r ⟨rfl, rfl, rfl⟩ -
          refine wq_iload_n (kk := 2) (q := 49) rfl rfl rfl ?_
          refine wq_icmp_lt (tgt := 68) (q := 52) rfl rfl rfl (fun c49 => ?_) (fun c49 => ?_)
          · skip
            refine wq_iconst (n := 0) (q := 69) rfl rfl rfl ?_
            refine wq_istore (i := 7) (q := 71) rfl rfl (Nat.le_of_ble_eq_true rfl) rfl ?_
            refine wq_iload (i := 7) (q := 73) rfl rfl rfl ?_
            refine wq_if_eq (tgt := 96) (q := 76) rfl rfl rfl (fun c73 => ?_) (fun c73 => ?_)
            · skip
              refine wq_iload (i := 5) (q := 98) rfl rfl rfl ?_
              refine wq_istore (i := 5) (q := 100) rfl rfl (Nat.le_of_ble_eq_true rfl) rfl ?_
              refine wq_iinc (i := 6) (n := 1) (q := 103) rfl rfl rfl (Nat.le_of_ble_eq_true rfl) rfl (by first | omega | (simp [hup]; omega)) (by first | omega | (simp [hup]; omega)) ?_
              refine wq_goto (tgt := 7) rfl rfl ?_
              have hfd := hfr (by omega)
              refine ih _ (by omega) (d + 1) _ _ rfl (by omega) (by omega) (step _ ?_ ?_ ?_)
              · omega
              · first
                | exact Or.inl rfl
                | (exfalso; omega)
                | exact Or.inr ⟨by omega, by assumption, by omega, by omega, by omega, rfl⟩
              · intro y1 y2 y3 y4 y5
                first
                | exact absurd y2 (by assumption)
                | omega
            · skip
              refine wq_aload_n (kk := 0) (q := 77) rfl rfl rfl ?_
              refine wq_iload (i := 6) (q := 79) rfl rfl rfl ?_
              refine wq_callV (q := 82) (m' := m_Mo_leavesAt) (R' := rm 2) (As := [_]) rfl rfl l_Mo_250 vm_Mo_leavesAt rfl rfl rfl (Or.inl ⟨rfl, Nat.le_of_ble_eq_true rfl⟩) (Nat.le_of_ble_eq_true rfl) (Nat.le_of_ble_eq_true rfl) (Nat.le_refl _) (Nat.le_refl _) (Nat.le_of_ble_eq_true rfl) (Mo_leavesAt_ok N d h r hM (hdp (by omega))) rfl ?_
              rintro rv h r ⟨rfl, rfl, rfl⟩ -
              refine wq_iload (i := 5) (q := 84) rfl rfl rfl ?_
              refine wq_icmp_le (tgt := 96) (q := 87) rfl rfl rfl (fun c84 => ?_) (fun c84 => ?_)
              · skip
                refine wq_iload (i := 5) (q := 98) rfl rfl rfl ?_
                refine wq_istore (i := 5) (q := 100) rfl rfl (Nat.le_of_ble_eq_true rfl) rfl ?_
                refine wq_iinc (i := 6) (n := 1) (q := 103) rfl rfl rfl (Nat.le_of_ble_eq_true rfl) rfl (by first | omega | (simp [hup]; omega)) (by first | omega | (simp [hup]; omega)) ?_
                refine wq_goto (tgt := 7) rfl rfl ?_
                have hfd := hfr (by omega)
                refine ih _ (by omega) (d + 1) _ _ rfl (by omega) (by omega) (step _ ?_ ?_ ?_)
                · omega
                · first
                  | exact Or.inl rfl
                  | (exfalso; omega)
                  | exact Or.inr ⟨by omega, by assumption, by omega, by omega, by omega, rfl⟩
                · intro y1 y2 y3 y4 y5
                  first
                  | exact absurd y2 (by assumption)
                  | omega
              · skip
                refine wq_aload_n (kk := 0) (q := 88) rfl rfl rfl ?_
                refine wq_iload (i := 6) (q := 90) rfl rfl rfl ?_
                refine wq_callV (q := 93) (m' := m_Mo_leavesAt) (R' := rm 2) (As := [_]) rfl rfl l_Mo_250 vm_Mo_leavesAt rfl rfl rfl (Or.inl ⟨rfl, Nat.le_of_ble_eq_true rfl⟩) (Nat.le_of_ble_eq_true rfl) (Nat.le_of_ble_eq_true rfl) (Nat.le_refl _) (Nat.le_refl _) (Nat.le_of_ble_eq_true rfl) (Mo_leavesAt_ok N d h r hM (hdp (by omega))) rfl ?_
                rintro rv h r ⟨rfl, rfl, rfl⟩ -
                refine wq_goto (tgt := 98) rfl rfl ?_
                refine wq_istore (i := 5) (q := 100) rfl rfl (Nat.le_of_ble_eq_true rfl) rfl ?_
                refine wq_iinc (i := 6) (n := 1) (q := 103) rfl rfl rfl (Nat.le_of_ble_eq_true rfl) rfl (by first | omega | (simp [hup]; omega)) (by first | omega | (simp [hup]; omega)) ?_
                refine wq_goto (tgt := 7) rfl rfl ?_
                have hfd := hfr (by omega)
                refine ih _ (by omega) (d + 1) _ _ rfl (by omega) (by omega) (step _ ?_ ?_ ?_)
                · omega
                · first
                  | exact Or.inl rfl
                  | (exfalso; omega)
                  | exact Or.inr ⟨by omega, by assumption, by omega, by omega, by omega, rfl⟩
                · intro y1 y2 y3 y4 y5
                  first
                  | exact absurd y2 (by assumption)
                  | omega
          · skip
            refine wq_aload_n (kk := 0) (q := 53) rfl rfl rfl ?_
            refine wq_iload (i := 6) (q := 55) rfl rfl rfl ?_
            refine wq_iload_n (kk := 3) (q := 56) rfl rfl rfl ?_
            refine wq_callV (q := 59) (m' := m_Mo_soonest) (R' := rm 1) (As := [_, _]) rfl rfl l_Mo_316 vm_Mo_soonest rfl rfl rfl (Or.inl ⟨rfl, Nat.le_of_ble_eq_true rfl⟩) (Nat.le_of_ble_eq_true rfl) (Nat.le_of_ble_eq_true rfl) (Nat.le_refl _) (Nat.le_refl _) (Nat.le_of_ble_eq_true rfl) (Mo_soonest_ok d k h r (by omega) hk) rfl ?_
            rintro rv h r ⟨rfl, rfl, rfl⟩ -
            refine wq_iload (i := 4) (q := 61) rfl rfl rfl ?_
            refine wq_icmp_ne (tgt := 68) (q := 64) rfl rfl rfl (fun c61 => ?_) (fun c61 => ?_)
            · skip
              refine wq_iconst (n := 0) (q := 69) rfl rfl rfl ?_
              refine wq_istore (i := 7) (q := 71) rfl rfl (Nat.le_of_ble_eq_true rfl) rfl ?_
              refine wq_iload (i := 7) (q := 73) rfl rfl rfl ?_
              refine wq_if_eq (tgt := 96) (q := 76) rfl rfl rfl (fun c73 => ?_) (fun c73 => ?_)
              · skip
                refine wq_iload (i := 5) (q := 98) rfl rfl rfl ?_
                refine wq_istore (i := 5) (q := 100) rfl rfl (Nat.le_of_ble_eq_true rfl) rfl ?_
                refine wq_iinc (i := 6) (n := 1) (q := 103) rfl rfl rfl (Nat.le_of_ble_eq_true rfl) rfl (by first | omega | (simp [hup]; omega)) (by first | omega | (simp [hup]; omega)) ?_
                refine wq_goto (tgt := 7) rfl rfl ?_
                have hfd := hfr (by omega)
                refine ih _ (by omega) (d + 1) _ _ rfl (by omega) (by omega) (step _ ?_ ?_ ?_)
                · omega
                · first
                  | exact Or.inl rfl
                  | (exfalso; omega)
                  | exact Or.inr ⟨by omega, by assumption, by omega, by omega, by omega, rfl⟩
                · intro y1 y2 y3 y4 y5
                  first
                  | exact absurd y2 (by assumption)
                  | omega
              · skip
                refine wq_aload_n (kk := 0) (q := 77) rfl rfl rfl ?_
                refine wq_iload (i := 6) (q := 79) rfl rfl rfl ?_
                refine wq_callV (q := 82) (m' := m_Mo_leavesAt) (R' := rm 2) (As := [_]) rfl rfl l_Mo_250 vm_Mo_leavesAt rfl rfl rfl (Or.inl ⟨rfl, Nat.le_of_ble_eq_true rfl⟩) (Nat.le_of_ble_eq_true rfl) (Nat.le_of_ble_eq_true rfl) (Nat.le_refl _) (Nat.le_refl _) (Nat.le_of_ble_eq_true rfl) (Mo_leavesAt_ok N d h r hM (hdp (by omega))) rfl ?_
                rintro rv h r ⟨rfl, rfl, rfl⟩ -
                refine wq_iload (i := 5) (q := 84) rfl rfl rfl ?_
                refine wq_icmp_le (tgt := 96) (q := 87) rfl rfl rfl (fun c84 => ?_) (fun c84 => ?_)
                · skip
                  refine wq_iload (i := 5) (q := 98) rfl rfl rfl ?_
                  refine wq_istore (i := 5) (q := 100) rfl rfl (Nat.le_of_ble_eq_true rfl) rfl ?_
                  refine wq_iinc (i := 6) (n := 1) (q := 103) rfl rfl rfl (Nat.le_of_ble_eq_true rfl) rfl (by first | omega | (simp [hup]; omega)) (by first | omega | (simp [hup]; omega)) ?_
                  refine wq_goto (tgt := 7) rfl rfl ?_
                  have hfd := hfr (by omega)
                  refine ih _ (by omega) (d + 1) _ _ rfl (by omega) (by omega) (step _ ?_ ?_ ?_)
                  · omega
                  · first
                    | exact Or.inl rfl
                    | (exfalso; omega)
                    | exact Or.inr ⟨by omega, by assumption, by omega, by omega, by omega, rfl⟩
                  · intro y1 y2 y3 y4 y5
                    first
                    | exact absurd y2 (by assumption)
                    | omega
                · skip
                  refine wq_aload_n (kk := 0) (q := 88) rfl rfl rfl ?_
                  refine wq_iload (i := 6) (q := 90) rfl rfl rfl ?_
                  refine wq_callV (q := 93) (m' := m_Mo_leavesAt) (R' := rm 2) (As := [_]) rfl rfl l_Mo_250 vm_Mo_leavesAt rfl rfl rfl (Or.inl ⟨rfl, Nat.le_of_ble_eq_true rfl⟩) (Nat.le_of_ble_eq_true rfl) (Nat.le_of_ble_eq_true rfl) (Nat.le_refl _) (Nat.le_refl _) (Nat.le_of_ble_eq_true rfl) (Mo_leavesAt_ok N d h r hM (hdp (by omega))) rfl ?_
                  rintro rv h r ⟨rfl, rfl, rfl⟩ -
                  refine wq_goto (tgt := 98) rfl rfl ?_
                  refine wq_istore (i := 5) (q := 100) rfl rfl (Nat.le_of_ble_eq_true rfl) rfl ?_
                  refine wq_iinc (i := 6) (n := 1) (q := 103) rfl rfl rfl (Nat.le_of_ble_eq_true rfl) rfl (by first | omega | (simp [hup]; omega)) (by first | omega | (simp [hup]; omega)) ?_
                  refine wq_goto (tgt := 7) rfl rfl ?_
                  have hfd := hfr (by omega)
                  refine ih _ (by omega) (d + 1) _ _ rfl (by omega) (by omega) (step _ ?_ ?_ ?_)
                  · omega
                  · first
                    | exact Or.inl rfl
                    | (exfalso; omega)
                    | exact Or.inr ⟨by omega, by assumption, by omega, by omega, by omega, rfl⟩
                  · intro y1 y2 y3 y4 y5
                    first
                    | exact absurd y2 (by assumption)
                    | omega
            · skip
              refine wq_iconst (n := 1) (q := 65) rfl rfl rfl ?_
              refine wq_goto (tgt := 69) rfl rfl ?_
              refine wq_istore (i := 7) (q := 71) rfl rfl (Nat.le_of_ble_eq_true rfl) rfl ?_
              refine wq_iload (i := 7) (q := 73) rfl rfl rfl ?_
              refine wq_if_eq (tgt := 96) (q := 76) rfl rfl rfl (fun c73 => ?_) (fun c73 => ?_)
              · skip
                refine wq_iload (i := 5) (q := 98) rfl rfl rfl ?_
                refine wq_istore (i := 5) (q := 100) rfl rfl (Nat.le_of_ble_eq_true rfl) rfl ?_
                refine wq_iinc (i := 6) (n := 1) (q := 103) rfl rfl rfl (Nat.le_of_ble_eq_true rfl) rfl (by first | omega | (simp [hup]; omega)) (by first | omega | (simp [hup]; omega)) ?_
                refine wq_goto (tgt := 7) rfl rfl ?_
                have hfd := hfr (by omega)
                refine ih _ (by omega) (d + 1) _ _ rfl (by omega) (by omega) (step _ ?_ ?_ ?_)
                · omega
                · first
                  | exact Or.inl rfl
                  | (exfalso; omega)
                  | exact Or.inr ⟨by omega, by assumption, by omega, by omega, by omega, rfl⟩
                · intro y1 y2 y3 y4 y5
                  first
                  | exact absurd y2 (by assumption)
                  | omega
              · skip
                refine wq_aload_n (kk := 0) (q := 77) rfl rfl rfl ?_
                refine wq_iload (i := 6) (q := 79) rfl rfl rfl ?_
                refine wq_callV (q := 82) (m' := m_Mo_leavesAt) (R' := rm 2) (As := [_]) rfl rfl l_Mo_250 vm_Mo_leavesAt rfl rfl rfl (Or.inl ⟨rfl, Nat.le_of_ble_eq_true rfl⟩) (Nat.le_of_ble_eq_true rfl) (Nat.le_of_ble_eq_true rfl) (Nat.le_refl _) (Nat.le_refl _) (Nat.le_of_ble_eq_true rfl) (Mo_leavesAt_ok N d h r hM (hdp (by omega))) rfl ?_
                rintro rv h r ⟨rfl, rfl, rfl⟩ -
                refine wq_iload (i := 5) (q := 84) rfl rfl rfl ?_
                refine wq_icmp_le (tgt := 96) (q := 87) rfl rfl rfl (fun c84 => ?_) (fun c84 => ?_)
                · skip
                  refine wq_iload (i := 5) (q := 98) rfl rfl rfl ?_
                  refine wq_istore (i := 5) (q := 100) rfl rfl (Nat.le_of_ble_eq_true rfl) rfl ?_
                  refine wq_iinc (i := 6) (n := 1) (q := 103) rfl rfl rfl (Nat.le_of_ble_eq_true rfl) rfl (by first | omega | (simp [hup]; omega)) (by first | omega | (simp [hup]; omega)) ?_
                  refine wq_goto (tgt := 7) rfl rfl ?_
                  have hfd := hfr (by omega)
                  refine ih _ (by omega) (d + 1) _ _ rfl (by omega) (by omega) (step _ ?_ ?_ ?_)
                  · omega
                  · first
                    | exact Or.inl rfl
                    | (exfalso; omega)
                    | exact Or.inr ⟨by omega, by assumption, by omega, by omega, by omega, rfl⟩
                  · intro y1 y2 y3 y4 y5
                    first
                    | exact absurd y2 (by assumption)
                    | omega
                · skip
                  refine wq_aload_n (kk := 0) (q := 88) rfl rfl rfl ?_
                  refine wq_iload (i := 6) (q := 90) rfl rfl rfl ?_
                  refine wq_callV (q := 93) (m' := m_Mo_leavesAt) (R' := rm 2) (As := [_]) rfl rfl l_Mo_250 vm_Mo_leavesAt rfl rfl rfl (Or.inl ⟨rfl, Nat.le_of_ble_eq_true rfl⟩) (Nat.le_of_ble_eq_true rfl) (Nat.le_of_ble_eq_true rfl) (Nat.le_refl _) (Nat.le_refl _) (Nat.le_of_ble_eq_true rfl) (Mo_leavesAt_ok N d h r hM (hdp (by omega))) rfl ?_
                  rintro rv h r ⟨rfl, rfl, rfl⟩ -
                  refine wq_goto (tgt := 98) rfl rfl ?_
                  refine wq_istore (i := 5) (q := 100) rfl rfl (Nat.le_of_ble_eq_true rfl) rfl ?_
                  refine wq_iinc (i := 6) (n := 1) (q := 103) rfl rfl rfl (Nat.le_of_ble_eq_true rfl) rfl (by first | omega | (simp [hup]; omega)) (by first | omega | (simp [hup]; omega)) ?_
                  refine wq_goto (tgt := 7) rfl rfl ?_
                  have hfd := hfr (by omega)
                  refine ih _ (by omega) (d + 1) _ _ rfl (by omega) (by omega) (step _ ?_ ?_ ?_)
                  · omega
                  · first
                    | exact Or.inl rfl
                    | (exfalso; omega)
                    | exact Or.inr ⟨by omega, by assumption, by omega, by omega, by omega, rfl⟩
                  · intro y1 y2 y3 y4 y5
                    first
                    | exact absurd y2 (by assumption)
                    | omega
set_option maxRecDepth 100000 in
theorem Mo_latestOf_ok (N : mN) (a t k s : Int) (h : mH) (r : mR) (hM : isM h N) (hk : 0 ≤ k ∧ k < 120) (he : ∃ d, dp N d ∧ rn N d = 1 ∧ frm N d = a ∧ t ≤ lv N d ∧ Vr h k d = s) : Meets true (rm 3) m_Mo_latestOf [vR 64, vI a, vI t, vI k, vI s] h r (fun rv h1 r1 => ∃ w, rv = some (vI w) ∧ h1 = h ∧ r1 = r ∧ Ls N a t (Vr h k) s w) := by
  have hn := hM.1.1
  refine Meets.mono (post := fun rv h1 r1 => ∃ w, rv = some (vI w) ∧ h1 = h ∧ r1 = r ∧ (w = -2 ∨ ∃ e, dp N e ∧ rn N e = 1 ∧ frm N e = a ∧ t ≤ lv N e ∧ Vr h k e = s ∧ w = lv N e) ∧ ∀ e, dp N e → rn N e = 1 → frm N e = a → t ≤ lv N e → Vr h k e = s → lv N e ≤ w) ?_ ?_
  · refine ⟨ok_Mo_latestOf, Nat.le_of_ble_eq_true rfl, ?_⟩
    refine wq_bipush (n := -2) (q := 2) rfl rfl rfl ?_
    refine wq_istore (i := 5) (q := 4) rfl rfl (Nat.le_of_ble_eq_true rfl) rfl ?_
    refine wq_iconst (n := 0) (q := 5) rfl rfl rfl ?_
    refine wq_istore (i := 6) (q := 7) rfl rfl (Nat.le_of_ble_eq_true rfl) rfl ?_
    exact Mo_latestOfL N a t k s h r hM hk _ 0 _ none rfl (by omega) (by omega) ⟨Or.inl rfl, Int.le_refl _, fun e e0 e1 => by have := e1.1; omega⟩
  · rintro rv h1 r1 ⟨w, x1, x2, x3, x4, x5⟩
    refine ⟨w, x1, x2, x3, ?_, x5⟩
    rcases x4 with z | z
    · obtain ⟨d, d1, d2, d3, d4, d5⟩ := he
      have := x5 d d1 d2 d3 d4 d5
      have := hM.1.2.2.1 d d1
      omega
    · exact z
theorem trd_e {N : mN} {a b t : Int} {h : mH} (hT : trd N a b t h) {i : Int} (i0 : 0 ≤ i) (i1 : i < h 64 32) : (0 ≤ h 80 i ∧ h 80 i ≤ 119) ∧ ∃ d, dp N d ∧ rn N d = 1 ∧ frm N d = a ∧ t ≤ lv N d ∧ Vr h (h 80 i) d = h 79 i := by
  obtain ⟨hVt, -, S, hS, hL⟩ := hT
  obtain ⟨b1, b2, b3, b4⟩ := hL.2.1 i i0 i1
  have c1 := (hS (h 80 i - 1) (by omega) (by omega)).2.1
  refine ⟨by omega, ?_⟩
  rcases (hS (h 80 i) (by omega) b2).1 with z | ⟨d, d1, d2, d3, d4, d5⟩
  · omega
  · exact ⟨d, d1, d2, d3, d4, by rw [b4]; exact d5⟩
theorem trd_q {N : mN} {a b t : Int} {h : mH} (hV : NV N) (hab : a ≠ b) (hT : trd N a b t h) : ∃ ts, Trp N a b t (h 64 32) (h 79) (h 80) ts ∧ ∀ i, 0 ≤ i → i < h 64 32 → Ls N a t (Vr h (h 80 i)) (h 79 i) (ts i) := by
  have hl : ∀ i, 0 ≤ i → i < h 64 32 → Ls N a t (Vr h (h 80 i)) (h 79 i) (Classical.epsilon (fun w => Ls N a t (Vr h (h 80 i)) (h 79 i) w)) := fun i i0 i1 => Classical.epsilon_spec (Ls_ex hV (trd_e hT i0 i1).2)
  obtain ⟨hVt, -, S, hS, hL⟩ := hT
  exact ⟨fun i => Classical.epsilon (fun w => Ls N a t (Vr h (h 80 i)) (h 79 i) w), Or.inr ⟨hab, 9999, Vr h, S, by decide, hVt, hS, hL, hl⟩, hl⟩
theorem Ls.uq {N : mN} {a t s w w' : Int} {v : mF} (h : Ls N a t v s w) (h' : Ls N a t v s w') : w = w' := by
  obtain ⟨⟨d, d1, d2, d3, d4, d5, d6⟩, m1⟩ := h
  obtain ⟨⟨g, g1, g2, g3, g4, g5, g6⟩, m2⟩ := h'
  have := m1 g g1 g2 g3 g4 g5
  have := m2 d d1 d2 d3 d4 d5
  omega
theorem Trp_0 {N : mN} {a b t : Int} (h : a = b) : Trp N a b t 1 (fun _ => t) (fun _ => 0) (fun _ => t) := Or.inl ⟨h, rfl, rfl, rfl, rfl⟩
theorem tdq {h h1 : mH} (f : f64 [28, 32] tdC h h1) : f64 qF qK h h1 := f.mono (by decide) (by decide)
set_option maxRecDepth 100000 in
set_option maxHeartbeats 1000000 in
theorem Mo_trades_ok (a b t : Int) (N : mN) (h : mH) (r : mR) (hI : mI h N) : Meets true (rm 7) m_Mo_trades [vR 64, vI a, vI b, vI t] h r (rqQ h r (Ans (kP (nS N) a b (bI (isT t))) (Tm N a b t))) := by
  refine ⟨ok_Mo_trades, Nat.le_of_ble_eq_true rfl, ?_⟩
  refine wq_aload_n (kk := 0) (q := 1) rfl rfl rfl ?_
  refine wq_aload_n (kk := 0) (q := 2) rfl rfl rfl ?_
  refine wq_iload_n (kk := 1) (q := 3) rfl rfl rfl ?_
  refine wq_iload_n (kk := 2) (q := 4) rfl rfl rfl ?_
  refine wq_iload_n (kk := 3) (q := 5) rfl rfl rfl ?_
  refine wq_callV (q := 8) (m' := m_Mo_wayWhy) (R' := rm 3) (As := [_, _, _]) rfl rfl l_Mo_307 vm_Mo_wayWhy rfl rfl rfl (Or.inl ⟨rfl, Nat.le_of_ble_eq_true rfl⟩) (Nat.le_of_ble_eq_true rfl) (Nat.le_of_ble_eq_true rfl) (Nat.le_refl _) (Nat.le_refl _) (Nat.le_of_ble_eq_true rfl) (Mo_wayWhy_ok a b t N h r hI) rfl ?_
  rintro rv h r ⟨rfl, rfl, rfl⟩ -
  generalize hk : kP (nS N) a b (bI (isT t)) = k
  refine wq_callV (q := 11) (m' := m_Mo_isRefused) (R' := rm 1) (As := [_]) rfl rfl l_Mo_228 vm_Mo_isRefused rfl rfl rfl (Or.inl ⟨rfl, Nat.le_of_ble_eq_true rfl⟩) (Nat.le_of_ble_eq_true rfl) (Nat.le_of_ble_eq_true rfl) (Nat.le_refl _) (Nat.le_refl _) (Nat.le_of_ble_eq_true rfl) (Mo_isRefused_ok k h r) rfl ?_
  rintro rv h1 r ⟨rfl, rfl, rfl⟩ -
  have f1 := x_ref_f (S := qF) (C := qK) (h := h) (k := k) (by decide) (by decide) (by decide) (by decide)
  have I1 := mI_f hI f1 (by decide) (by decide)
  refine wq_cif_eq (tgt := 16) (q := 14) rfl rfl rfl (fun c11 => ?_) (fun c11 => ?_)
  · skip
    have k0 : k = 0 := by simpa using c11
    subst k0
    have hab := kP_0 hk
    have ht := bI_ne hab.2
    refine wq_iload_n (kk := 1) (q := 17) rfl rfl rfl ?_
    refine wq_iload_n (kk := 2) (q := 18) rfl rfl rfl ?_
    refine wq_icmp_ne (tgt := 23) (q := 21) rfl rfl rfl (fun c18 => ?_) (fun c18 => ?_)
    · skip
      refine wq_aload_n (kk := 0) (q := 24) rfl rfl rfl ?_
      refine wq_iload_n (kk := 1) (q := 25) rfl rfl rfl ?_
      refine wq_iload_n (kk := 2) (q := 26) rfl rfl rfl ?_
      refine wq_iload_n (kk := 3) (q := 27) rfl rfl rfl ?_
      refine wq_callV (q := 30) (m' := m_Mo_laysTrades) (R' := rm 6) (As := [_, _, _]) rfl rfl l_Mo_328 vm_Mo_laysTrades rfl rfl rfl (Or.inl ⟨rfl, Nat.le_of_ble_eq_true rfl⟩) (Nat.le_of_ble_eq_true rfl) (Nat.le_of_ble_eq_true rfl) (Nat.le_refl _) (Nat.le_refl _) (Nat.le_of_ble_eq_true rfl) (Mo_laysTrades_ok N a b t _ r I1.1) rfl ?_
      rintro rv h2 r ⟨rfl, rfl, f2, hT⟩ -
      have hM2 := isM_f I1.1 f2.1 (by decide)
      have e1 : h2 64 1 = 0 := by rw [f2.2 1 (by decide)]; exact x_ref_1
      have f3 := f1.tr (tdq f2) (fun _ y => y) (fun _ y => y)
      obtain ⟨ts, hT1, hT2⟩ := trd_q hM2.1 c18 hT
      have hT3 := hT.2.1
      refine wq_aload_n (kk := 0) (q := 31) rfl rfl rfl ?_
      refine wq_getI (kz := 32) (q := 34) rfl f_Mo_325 rfl rfl (Or.inl ⟨rfl, Nat.le_of_ble_eq_true rfl⟩) rfl rfl ?_
      refine wq_if_ne (tgt := 42) (q := 37) rfl rfl rfl (fun c34 => ?_) (fun c34 => ?_)
      · skip
        refine wq_aload_n (kk := 0) (q := 43) rfl rfl rfl ?_
        refine wq_getI (kz := 32) (q := 46) rfl f_Mo_325 rfl rfl (Or.inl ⟨rfl, Nat.le_of_ble_eq_true rfl⟩) rfl rfl ?_
        refine wq_iret rfl rfl (Nat.le_refl _) (Nat.le_refl _) ⟨_, rfl, rfl, Or.inr ⟨rfl, _, _, _, _, hT1, e1, ?_⟩, by omega, f3⟩
        first | exact (if_pos (by omega)).symm | exact (if_neg (by omega)).symm
      · skip
        refine wq_bipush (n := -2) (q := 39) rfl rfl rfl ?_
        refine wq_goto (tgt := 46) rfl rfl ?_
        refine wq_iret rfl rfl (Nat.le_refl _) (Nat.le_refl _) ⟨_, rfl, rfl, Or.inr ⟨rfl, _, _, _, _, hT1, e1, ?_⟩, by omega, f3⟩
        first | exact (if_pos (by omega)).symm | exact (if_neg (by omega)).symm
    · skip
      refine wq_iconst (n := 1) (q := 22) rfl rfl rfl ?_
      exact wq_iret rfl rfl (Nat.le_refl _) (Nat.le_refl _) ⟨_, rfl, rfl, Or.inr ⟨rfl, _, _, _, _, Trp_0 c18, x_ref_1, rfl⟩, by rw [x_ref_1]; decide, f1⟩
  · skip
    refine wq_iconst (n := -1) (q := 15) rfl rfl rfl ?_
    exact wq_iret rfl rfl (Nat.le_refl _) (Nat.le_refl _) ⟨_, rfl, rfl, Or.inl ⟨c11, rfl, hup_s⟩, by rw [x_ref_1]; have := kP_b (n := nS N) (a := a) (b := b) (g := bI (isT t)); omega, f1⟩
set_option maxRecDepth 100000 in
set_option maxHeartbeats 1000000 in
theorem Mo_trade_ok (a b t i w : Int) (N : mN) (h : mH) (r : mR) (hI : mI h N) : Meets true (rm 7) m_Mo_trade [vR 64, vI a, vI b, vI t, vI i, vI w] h r (rqQ h r (Ans (kP (nS N) a b (bI (isT t))) (To N a b t i w))) := by
  refine ⟨ok_Mo_trade, Nat.le_of_ble_eq_true rfl, ?_⟩
  refine wq_aload_n (kk := 0) (q := 1) rfl rfl rfl ?_
  refine wq_aload_n (kk := 0) (q := 2) rfl rfl rfl ?_
  refine wq_iload_n (kk := 1) (q := 3) rfl rfl rfl ?_
  refine wq_iload_n (kk := 2) (q := 4) rfl rfl rfl ?_
  refine wq_iload_n (kk := 3) (q := 5) rfl rfl rfl ?_
  refine wq_callV (q := 8) (m' := m_Mo_wayWhy) (R' := rm 3) (As := [_, _, _]) rfl rfl l_Mo_307 vm_Mo_wayWhy rfl rfl rfl (Or.inl ⟨rfl, Nat.le_of_ble_eq_true rfl⟩) (Nat.le_of_ble_eq_true rfl) (Nat.le_of_ble_eq_true rfl) (Nat.le_refl _) (Nat.le_refl _) (Nat.le_of_ble_eq_true rfl) (Mo_wayWhy_ok a b t N h r hI) rfl ?_
  rintro rv h r ⟨rfl, rfl, rfl⟩ -
  generalize hk : kP (nS N) a b (bI (isT t)) = k
  refine wq_callV (q := 11) (m' := m_Mo_isRefused) (R' := rm 1) (As := [_]) rfl rfl l_Mo_228 vm_Mo_isRefused rfl rfl rfl (Or.inl ⟨rfl, Nat.le_of_ble_eq_true rfl⟩) (Nat.le_of_ble_eq_true rfl) (Nat.le_of_ble_eq_true rfl) (Nat.le_refl _) (Nat.le_refl _) (Nat.le_of_ble_eq_true rfl) (Mo_isRefused_ok k h r) rfl ?_
  rintro rv h1 r ⟨rfl, rfl, rfl⟩ -
  have f1 := x_ref_f (S := qF) (C := qK) (h := h) (k := k) (by decide) (by decide) (by decide) (by decide)
  have I1 := mI_f hI f1 (by decide) (by decide)
  refine wq_cif_eq (tgt := 16) (q := 14) rfl rfl rfl (fun c11 => ?_) (fun c11 => ?_)
  · skip
    have k0 : k = 0 := by simpa using c11
    subst k0
    have hab := kP_0 hk
    have ht := bI_ne hab.2
    refine wq_iload_n (kk := 1) (q := 17) rfl rfl rfl ?_
    refine wq_iload_n (kk := 2) (q := 18) rfl rfl rfl ?_
    refine wq_icmp_ne (tgt := 56) (q := 21) rfl rfl rfl (fun c18 => ?_) (fun c18 => ?_)
    · skip
      refine wq_aload_n (kk := 0) (q := 57) rfl rfl rfl ?_
      refine wq_iload_n (kk := 1) (q := 58) rfl rfl rfl ?_
      refine wq_iload_n (kk := 2) (q := 59) rfl rfl rfl ?_
      refine wq_iload_n (kk := 3) (q := 60) rfl rfl rfl ?_
      refine wq_callV (q := 63) (m' := m_Mo_laysTrades) (R' := rm 6) (As := [_, _, _]) rfl rfl l_Mo_328 vm_Mo_laysTrades rfl rfl rfl (Or.inl ⟨rfl, Nat.le_of_ble_eq_true rfl⟩) (Nat.le_of_ble_eq_true rfl) (Nat.le_of_ble_eq_true rfl) (Nat.le_refl _) (Nat.le_refl _) (Nat.le_of_ble_eq_true rfl) (Mo_laysTrades_ok N a b t _ r I1.1) rfl ?_
      rintro rv h2 r ⟨rfl, rfl, f2, hT⟩ -
      have hM2 := isM_f I1.1 f2.1 (by decide)
      have e1 : h2 64 1 = 0 := by rw [f2.2 1 (by decide)]; exact x_ref_1
      have f3 := f1.tr (tdq f2) (fun _ y => y) (fun _ y => y)
      obtain ⟨ts, hT1, hT2⟩ := trd_q hM2.1 c18 hT
      have hT3 := hT.2.1
      refine wq_aload_n (kk := 0) (q := 64) rfl rfl rfl ?_
      refine wq_getI (kz := 32) (q := 67) rfl f_Mo_325 rfl rfl (Or.inl ⟨rfl, Nat.le_of_ble_eq_true rfl⟩) rfl rfl ?_
      refine wq_if_ne (tgt := 73) (q := 70) rfl rfl rfl (fun c67 => ?_) (fun c67 => ?_)
      · skip
        refine wq_iload (i := 4) (q := 75) rfl rfl rfl ?_
        refine wq_iconst (n := 0) (q := 76) rfl rfl rfl ?_
        refine wq_aload_n (kk := 0) (q := 77) rfl rfl rfl ?_
        refine wq_getI (kz := 32) (q := 80) rfl f_Mo_325 rfl rfl (Or.inl ⟨rfl, Nat.le_of_ble_eq_true rfl⟩) rfl rfl ?_
        refine wq_iconst (n := 1) (q := 81) rfl rfl rfl ?_
        refine wq_isub (q := 82) rfl rfl (by first | omega | (simp [hup]; omega)) (by first | omega | (simp [hup]; omega)) ?_
        refine wq_callS (q := 85) (m' := m_Mo_in) (R' := rm 1) (As := [_, _, _]) rfl rfl l_Mo_107 sm_Mo_in rfl (Nat.le_of_ble_eq_true rfl) (Nat.le_of_ble_eq_true rfl) (Nat.le_refl _) (Nat.le_refl _) (Nat.le_of_ble_eq_true rfl) (Mo_in_ok _ _ _ h2 r) rfl ?_
        rintro rv h2 r ⟨rfl, rfl, rfl⟩ -
        refine wq_cif_eq (tgt := 98) (q := 88) rfl rfl rfl (fun c85 => ?_) (fun c85 => ?_)
        · skip
          refine wq_aload_n (kk := 0) (q := 99) rfl rfl rfl ?_
          refine wq_iconst (n := 1) (q := 100) rfl rfl rfl ?_
          refine wq_callV (q := 103) (m' := m_Mo_no) (R' := rm 1) (As := [_]) rfl rfl l_Mo_237 vm_Mo_no rfl rfl rfl (Or.inl ⟨rfl, Nat.le_of_ble_eq_true rfl⟩) (Nat.le_of_ble_eq_true rfl) (Nat.le_of_ble_eq_true rfl) (Nat.le_refl _) (Nat.le_refl _) (Nat.le_of_ble_eq_true rfl) (Mo_no_ok 1 h2 r) rfl ?_
          rintro rv h3 r ⟨rfl, rfl, rfl⟩ -
          exact wq_iret rfl rfl (Nat.le_refl _) (Nat.le_refl _) ⟨_, rfl, rfl, Or.inr ⟨rfl, _, _, _, _, hT1, Or.inr (Or.inl ⟨by omega, by omega, rfl, hup_s⟩)⟩, by rw [hup_s]; decide, f3.up (by decide) (by decide)⟩
        · skip
          refine wq_iload (i := 5) (q := 90) rfl rfl rfl ?_
          refine wq_iconst (n := 0) (q := 91) rfl rfl rfl ?_
          refine wq_iconst (n := 2) (q := 92) rfl rfl rfl ?_
          refine wq_callS (q := 95) (m' := m_Mo_in) (R' := rm 1) (As := [_, _, _]) rfl rfl l_Mo_107 sm_Mo_in rfl (Nat.le_of_ble_eq_true rfl) (Nat.le_of_ble_eq_true rfl) (Nat.le_refl _) (Nat.le_refl _) (Nat.le_of_ble_eq_true rfl) (Mo_in_ok _ _ _ h2 r) rfl ?_
          rintro rv h2 r ⟨rfl, rfl, rfl⟩ -
          refine wq_cif_ne (tgt := 104) (q := 98) rfl rfl rfl (fun c95 => ?_) (fun c95 => ?_)
          · skip
            have hi := trd_e hT (i := i) (by omega) (by omega)
            refine wq_iload (i := 5) (q := 106) rfl rfl rfl ?_
            refine wq_if_ne (tgt := 119) (q := 109) rfl rfl rfl (fun c106 => ?_) (fun c106 => ?_)
            · skip
              refine wq_iload (i := 5) (q := 121) rfl rfl rfl ?_
              refine wq_iconst (n := 1) (q := 122) rfl rfl rfl ?_
              refine wq_icmp_ne (tgt := 135) (q := 125) rfl rfl rfl (fun c122 => ?_) (fun c122 => ?_)
              · skip
                refine wq_aload_n (kk := 0) (q := 136) rfl rfl rfl ?_
                refine wq_iload_n (kk := 1) (q := 137) rfl rfl rfl ?_
                refine wq_iload_n (kk := 3) (q := 138) rfl rfl rfl ?_
                refine wq_aload_n (kk := 0) (q := 139) rfl rfl rfl ?_
                refine wq_getF (q := 142) f_Mo_60 rfl rfl (Nat.le_of_ble_eq_true rfl) rfl rfl rfl ?_
                refine wq_iload (i := 4) (q := 144) rfl rfl rfl ?_
                refine wq_iald (q := 145) rfl (Or.inl ⟨rfl, Nat.le_of_ble_eq_true rfl⟩) rfl rfl (by first | omega | (simp [hup]; omega)) (by first | omega | (simp [hup]; omega)) ?_
                refine wq_aload_n (kk := 0) (q := 146) rfl rfl rfl ?_
                refine wq_getF (q := 149) f_Mo_57 rfl rfl (Nat.le_of_ble_eq_true rfl) rfl rfl rfl ?_
                refine wq_iload (i := 4) (q := 151) rfl rfl rfl ?_
                refine wq_iald (q := 152) rfl (Or.inl ⟨rfl, Nat.le_of_ble_eq_true rfl⟩) rfl rfl (by first | omega | (simp [hup]; omega)) (by first | omega | (simp [hup]; omega)) ?_
                refine wq_callV (q := 155) (m' := m_Mo_latestOf) (R' := rm 3) (As := [_, _, _, _]) rfl rfl l_Mo_332 vm_Mo_latestOf rfl rfl rfl (Or.inl ⟨rfl, Nat.le_of_ble_eq_true rfl⟩) (Nat.le_of_ble_eq_true rfl) (Nat.le_of_ble_eq_true rfl) (Nat.le_refl _) (Nat.le_refl _) (Nat.le_of_ble_eq_true rfl) (Mo_latestOf_ok N a t (h2 80 i) (h2 79 i) h2 r hM2 (by omega) hi.2) rfl ?_
                rintro rv h2 r ⟨v, rfl, rfl, rfl, hL⟩ -
                have := (hT2 i (by omega) (by omega)).uq hL
                exact wq_iret rfl rfl (Nat.le_refl _) (Nat.le_refl _) ⟨_, rfl, rfl, Or.inr ⟨rfl, _, _, _, _, hT1, Or.inr (Or.inr ⟨by omega, Or.inr (Or.inr ⟨by omega, this.symm⟩), e1⟩)⟩, by omega, f3⟩
              · skip
                refine wq_aload_n (kk := 0) (q := 126) rfl rfl rfl ?_
                refine wq_getF (q := 129) f_Mo_60 rfl rfl (Nat.le_of_ble_eq_true rfl) rfl rfl rfl ?_
                refine wq_iload (i := 4) (q := 131) rfl rfl rfl ?_
                refine wq_iald (q := 132) rfl (Or.inl ⟨rfl, Nat.le_of_ble_eq_true rfl⟩) rfl rfl (by first | omega | (simp [hup]; omega)) (by first | omega | (simp [hup]; omega)) ?_
                refine wq_goto (tgt := 155) rfl rfl ?_
                first
                | exact wq_iret rfl rfl (Nat.le_refl _) (Nat.le_refl _) ⟨_, rfl, rfl, Or.inr ⟨rfl, _, _, _, _, hT1, Or.inr (Or.inr ⟨by omega, Or.inl ⟨by omega, rfl⟩, e1⟩)⟩, by omega, f3⟩
                | exact wq_iret rfl rfl (Nat.le_refl _) (Nat.le_refl _) ⟨_, rfl, rfl, Or.inr ⟨rfl, _, _, _, _, hT1, Or.inr (Or.inr ⟨by omega, Or.inr (Or.inl ⟨by omega, rfl⟩), e1⟩)⟩, by omega, f3⟩
            · skip
              refine wq_aload_n (kk := 0) (q := 110) rfl rfl rfl ?_
              refine wq_getF (q := 113) f_Mo_57 rfl rfl (Nat.le_of_ble_eq_true rfl) rfl rfl rfl ?_
              refine wq_iload (i := 4) (q := 115) rfl rfl rfl ?_
              refine wq_iald (q := 116) rfl (Or.inl ⟨rfl, Nat.le_of_ble_eq_true rfl⟩) rfl rfl (by first | omega | (simp [hup]; omega)) (by first | omega | (simp [hup]; omega)) ?_
              refine wq_goto (tgt := 155) rfl rfl ?_
              first
              | exact wq_iret rfl rfl (Nat.le_refl _) (Nat.le_refl _) ⟨_, rfl, rfl, Or.inr ⟨rfl, _, _, _, _, hT1, Or.inr (Or.inr ⟨by omega, Or.inl ⟨by omega, rfl⟩, e1⟩)⟩, by omega, f3⟩
              | exact wq_iret rfl rfl (Nat.le_refl _) (Nat.le_refl _) ⟨_, rfl, rfl, Or.inr ⟨rfl, _, _, _, _, hT1, Or.inr (Or.inr ⟨by omega, Or.inr (Or.inl ⟨by omega, rfl⟩), e1⟩)⟩, by omega, f3⟩
          · skip
            refine wq_aload_n (kk := 0) (q := 99) rfl rfl rfl ?_
            refine wq_iconst (n := 1) (q := 100) rfl rfl rfl ?_
            refine wq_callV (q := 103) (m' := m_Mo_no) (R' := rm 1) (As := [_]) rfl rfl l_Mo_237 vm_Mo_no rfl rfl rfl (Or.inl ⟨rfl, Nat.le_of_ble_eq_true rfl⟩) (Nat.le_of_ble_eq_true rfl) (Nat.le_of_ble_eq_true rfl) (Nat.le_refl _) (Nat.le_refl _) (Nat.le_of_ble_eq_true rfl) (Mo_no_ok 1 h2 r) rfl ?_
            rintro rv h3 r ⟨rfl, rfl, rfl⟩ -
            exact wq_iret rfl rfl (Nat.le_refl _) (Nat.le_refl _) ⟨_, rfl, rfl, Or.inr ⟨rfl, _, _, _, _, hT1, Or.inr (Or.inl ⟨by omega, by omega, rfl, hup_s⟩)⟩, by rw [hup_s]; decide, f3.up (by decide) (by decide)⟩
      · skip
        refine wq_bipush (n := -2) (q := 72) rfl rfl rfl ?_
        exact wq_iret rfl rfl (Nat.le_refl _) (Nat.le_refl _) ⟨_, rfl, rfl, Or.inr ⟨rfl, _, _, _, _, hT1, Or.inl ⟨by omega, rfl, e1⟩⟩, by omega, f3⟩
    · skip
      refine wq_iload (i := 4) (q := 23) rfl rfl rfl ?_
      refine wq_if_ne (tgt := 36) (q := 26) rfl rfl rfl (fun c23 => ?_) (fun c23 => ?_)
      · skip
        refine wq_aload_n (kk := 0) (q := 37) rfl rfl rfl ?_
        refine wq_iconst (n := 1) (q := 38) rfl rfl rfl ?_
        refine wq_callV (q := 41) (m' := m_Mo_no) (R' := rm 1) (As := [_]) rfl rfl l_Mo_237 vm_Mo_no rfl rfl rfl (Or.inl ⟨rfl, Nat.le_of_ble_eq_true rfl⟩) (Nat.le_of_ble_eq_true rfl) (Nat.le_of_ble_eq_true rfl) (Nat.le_refl _) (Nat.le_refl _) (Nat.le_of_ble_eq_true rfl) (Mo_no_ok 1 _ r) rfl ?_
        rintro rv h2 r ⟨rfl, rfl, rfl⟩ -
        refine wq_goto (tgt := 55) rfl rfl ?_
        exact wq_iret rfl rfl (Nat.le_refl _) (Nat.le_refl _) ⟨_, rfl, rfl, Or.inr ⟨rfl, _, _, _, _, Trp_0 c18, Or.inr (Or.inl ⟨by decide, by omega, rfl, hup_s⟩)⟩, by rw [hup_s]; decide, f1.up (by decide) (by decide)⟩
      · skip
        refine wq_iload (i := 5) (q := 28) rfl rfl rfl ?_
        refine wq_iconst (n := 0) (q := 29) rfl rfl rfl ?_
        refine wq_iconst (n := 2) (q := 30) rfl rfl rfl ?_
        refine wq_callS (q := 33) (m' := m_Mo_in) (R' := rm 1) (As := [_, _, _]) rfl rfl l_Mo_107 sm_Mo_in rfl (Nat.le_of_ble_eq_true rfl) (Nat.le_of_ble_eq_true rfl) (Nat.le_refl _) (Nat.le_refl _) (Nat.le_of_ble_eq_true rfl) (Mo_in_ok _ _ _ _ r) rfl ?_
        rintro rv h2 r ⟨rfl, rfl, rfl⟩ -
        refine wq_cif_ne (tgt := 44) (q := 36) rfl rfl rfl (fun c33 => ?_) (fun c33 => ?_)
        · skip
          refine wq_iload (i := 5) (q := 46) rfl rfl rfl ?_
          refine wq_iconst (n := 1) (q := 47) rfl rfl rfl ?_
          refine wq_icmp_ne (tgt := 54) (q := 50) rfl rfl rfl (fun c47 => ?_) (fun c47 => ?_)
          · skip
            refine wq_iload_n (kk := 3) (q := 55) rfl rfl rfl ?_
            first
            | exact wq_iret rfl rfl (Nat.le_refl _) (Nat.le_refl _) ⟨_, rfl, rfl, Or.inr ⟨rfl, _, _, _, _, Trp_0 c18, Or.inr (Or.inr ⟨by omega, Or.inr (Or.inl ⟨by omega, rfl⟩), x_ref_1⟩)⟩, by rw [x_ref_1]; decide, f1⟩
            | exact wq_iret rfl rfl (Nat.le_refl _) (Nat.le_refl _) ⟨_, rfl, rfl, Or.inr ⟨rfl, _, _, _, _, Trp_0 c18, Or.inr (Or.inr ⟨by omega, show w = 0 ∧ t = t ∨ w = 1 ∧ t = (0 : Int) ∨ w = 2 ∧ t = t by omega, x_ref_1⟩)⟩, by rw [x_ref_1]; decide, f1⟩
          · skip
            refine wq_iconst (n := 0) (q := 51) rfl rfl rfl ?_
            refine wq_goto (tgt := 55) rfl rfl ?_
            first
            | exact wq_iret rfl rfl (Nat.le_refl _) (Nat.le_refl _) ⟨_, rfl, rfl, Or.inr ⟨rfl, _, _, _, _, Trp_0 c18, Or.inr (Or.inr ⟨by omega, Or.inr (Or.inl ⟨by omega, rfl⟩), x_ref_1⟩)⟩, by rw [x_ref_1]; decide, f1⟩
            | exact wq_iret rfl rfl (Nat.le_refl _) (Nat.le_refl _) ⟨_, rfl, rfl, Or.inr ⟨rfl, _, _, _, _, Trp_0 c18, Or.inr (Or.inr ⟨by omega, show w = 0 ∧ t = t ∨ w = 1 ∧ t = (0 : Int) ∨ w = 2 ∧ t = t by omega, x_ref_1⟩)⟩, by rw [x_ref_1]; decide, f1⟩
        · skip
          refine wq_aload_n (kk := 0) (q := 37) rfl rfl rfl ?_
          refine wq_iconst (n := 1) (q := 38) rfl rfl rfl ?_
          refine wq_callV (q := 41) (m' := m_Mo_no) (R' := rm 1) (As := [_]) rfl rfl l_Mo_237 vm_Mo_no rfl rfl rfl (Or.inl ⟨rfl, Nat.le_of_ble_eq_true rfl⟩) (Nat.le_of_ble_eq_true rfl) (Nat.le_of_ble_eq_true rfl) (Nat.le_refl _) (Nat.le_refl _) (Nat.le_of_ble_eq_true rfl) (Mo_no_ok 1 _ r) rfl ?_
          rintro rv h2 r ⟨rfl, rfl, rfl⟩ -
          refine wq_goto (tgt := 55) rfl rfl ?_
          exact wq_iret rfl rfl (Nat.le_refl _) (Nat.le_refl _) ⟨_, rfl, rfl, Or.inr ⟨rfl, _, _, _, _, Trp_0 c18, Or.inr (Or.inl ⟨by decide, by omega, rfl, hup_s⟩)⟩, by rw [hup_s]; decide, f1.up (by decide) (by decide)⟩
  · skip
    refine wq_iconst (n := -1) (q := 15) rfl rfl rfl ?_
    exact wq_iret rfl rfl (Nat.le_refl _) (Nat.le_refl _) ⟨_, rfl, rfl, Or.inl ⟨c11, rfl, hup_s⟩, by rw [x_ref_1]; have := kP_b (n := nS N) (a := a) (b := b) (g := bI (isT t)); omega, f1⟩

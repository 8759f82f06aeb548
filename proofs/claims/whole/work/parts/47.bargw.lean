/-! LinkTimes$Bargains: cell 58; ends 59, turns 60, starts 61; now and fewer 62 and 63, one or the other -/
def isB (nw fw : Nat) (r : mR) : Prop := (nw = 62 ∧ fw = 63 ∨ nw = 63 ∧ fw = 62) ∧ r.1 58 4 = some nw ∧ r.1 58 5 = some fw
def Cg (N : mN) (d f : Int) : Prop := dp N f ∧ J N d f ∧ frm N f = dst N d
def vl (N : mN) (pv cu : mF) (d f : Int) : Int := if ln N d = ln N f then cu f else pv f
def SW (N : mN) (b : Int) (pv cu : mF) (d v : Int) (P : Int → Prop) : Prop := v ≤ 1000000 ∧ (v = 1000000 ∨ ∃ f, P f ∧ Cg N d f ∧ v = vl N pv cu d f) ∧ ∀ f, P f → Cg N d f → v ≤ vl N pv cu d f
set_option maxRecDepth 100000 in
set_option maxHeartbeats 4000000 in
theorem Ba_swA (nw fw : Nat) (N : mN) (d b : Int) (h : mH) (r : mR) (hB : isB nw fw r) (hw : netW h r N) (hd : dp N d) : ∀ (M : Nat) (p v : Int) (z : Option mV), (h 37 (dst N d + 1) - p).toNat = M → h 37 (dst N d) ≤ p → p ≤ h 37 (dst N d + 1) → SW N b (h fw) (h nw) d v (fun f => ∃ q, h 37 (dst N d) ≤ q ∧ q < p ∧ h 36 q = f) → WP (true, rm 3) m_Ba_soonestWith (rt m_Ba_soonestWith (rm 3) (fun rv h1 r1 => ∃ v, rv = some (vI v) ∧ h1 = h ∧ r1 = r ∧ SW N b (h fw) (h nw) d v (fun _ => True))) 37 [some (vR 58), some (vR 31), some (vI d), some (vI b), some (vI (dst N d)), some (vI v), some (vI p), z] [] h r (0, 0) := by
  obtain ⟨hids, hnow, hfew⟩ := hB
  rcases hids with ⟨rfl, rfl⟩ | ⟨rfl, rfl⟩
  all_goals
    intro M
    induction M using Nat.strongRecOn with
    | ind M ih =>
      intro p v z hM p0 p1 hS
      obtain ⟨hnde, hV, hN, hO, hG⟩ := id hw
      have hve := hV.2.2.1 d hd
      have hn := hV.1
      have hSs := hV.2.1
      have hd0 := hd.1
      have hd1 := hd.2
      have g1 := hG.1 (dst N d) (by omega) (by omega)
      have gd : p < h 37 (dst N d + 1) → dp N (h 36 p) ∧ frm N (h 36 p) = dst N d := fun y => hG.2.1 (dst N d) p (by omega) (by omega) p0 y
      refine wq_iload (i := 6) (q := 39) rfl rfl rfl ?_
      refine wq_aload_n (kk := 1) (q := 40) rfl rfl rfl ?_
      refine wq_getF (q := 43) f_Ba_73 rfl rfl (Nat.le_of_ble_eq_true rfl) rfl rfl rfl ?_
      refine wq_iload (i := 4) (q := 45) rfl rfl rfl ?_
      refine wq_iconst (n := 1) (q := 46) rfl rfl rfl ?_
      refine wq_iadd (q := 47) rfl rfl (by first | omega | (have y := gd (by omega); have y1 := y.1.1; have y2 := y.1.2; omega)) (by first | omega | (have y := gd (by omega); have y1 := y.1.1; have y2 := y.1.2; omega)) ?_
      refine wq_iald (q := 48) rfl (Or.inl ⟨rfl, Nat.le_of_ble_eq_true rfl⟩) rfl rfl (by first | omega | (have y := gd (by omega); have y1 := y.1.1; have y2 := y.1.2; omega)) (by first | omega | (have y := gd (by omega); have y1 := y.1.1; have y2 := y.1.2; omega)) ?_
      refine wq_icmp_ge (tgt := 110) (q := 51) rfl rfl rfl (fun c48 => ?_) (fun c48 => ?_)
      · skip
        refine wq_iload (i := 5) (q := 112) rfl rfl rfl ?_
        refine wq_iret rfl rfl (Nat.le_refl _) (Nat.le_refl _) ⟨v, rfl, rfl, rfl, hS.1, hS.2.1.imp id (fun ⟨f, _, f1, f2⟩ => ⟨f, trivial, f1, f2⟩), fun f _ hc => ?_⟩
        obtain ⟨q, q0, q1, q2⟩ := hG.2.2.1 f hc.1
        rw [hc.2.2] at q0 q1
        exact hS.2.2 f ⟨q, q0, by omega, q2⟩ hc
      · skip
        refine wq_aload_n (kk := 1) (q := 52) rfl rfl rfl ?_
        refine wq_getF (q := 55) f_Ba_76 rfl rfl (Nat.le_of_ble_eq_true rfl) rfl rfl rfl ?_
        refine wq_iload (i := 6) (q := 57) rfl rfl rfl ?_
        refine wq_iald (q := 58) rfl (Or.inl ⟨rfl, Nat.le_of_ble_eq_true rfl⟩) rfl rfl (by first | omega | (have y := gd (by omega); have y1 := y.1.1; have y2 := y.1.2; omega)) (by first | omega | (have y := gd (by omega); have y1 := y.1.1; have y2 := y.1.2; omega)) ?_
        refine wq_istore (i := 7) (q := 60) rfl rfl (Nat.le_of_ble_eq_true rfl) rfl ?_
        refine wq_aload_n (kk := 1) (q := 61) rfl rfl rfl ?_
        refine wq_iload_n (kk := 2) (q := 62) rfl rfl rfl ?_
        refine wq_iload (i := 7) (q := 64) rfl rfl rfl ?_
        refine wq_callV (q := 67) (m' := m_Ne_joins) (R' := rm 2) (As := [_, _]) rfl rfl l_Ba_79 vm_Ne_joins rfl rfl rfl (Or.inl ⟨rfl, Nat.le_of_ble_eq_true rfl⟩) (Nat.le_of_ble_eq_true rfl) (Nat.le_of_ble_eq_true rfl) (Nat.le_refl _) (Nat.le_refl _) (Nat.le_of_ble_eq_true rfl) (Ne_joins_ok N d (h 36 p) h r hnde hV hN hd (gd (by omega)).1) rfl ?_
        rintro rv h r ⟨rfl, rfl, rfl⟩ -
        refine wq_cif_eq (tgt := 104) (q := 70) rfl rfl rfl (fun c67 => ?_) (fun c67 => ?_)
        · skip
          refine wq_iinc (i := 6) (n := 1) (q := 107) rfl rfl rfl (Nat.le_of_ble_eq_true rfl) rfl (by first | omega | (have y := gd (by omega); have y1 := y.1.1; have y2 := y.1.2; omega)) (by first | omega | (have y := gd (by omega); have y1 := y.1.1; have y2 := y.1.2; omega)) ?_
          refine wq_goto (tgt := 37) rfl rfl ?_
          have hg := gd (by omega)
          first
            | (have hv : ∃ w, w = vl N (h 63) (h 62) d (h 36 p) := ⟨_, rfl⟩
               obtain ⟨w, hw'⟩ := hv
               have hvv := hw'
               unfold vl at hw'
               first
                 | rw [if_neg c79] at hw'
                 | rw [if_pos (Classical.byContradiction c79)] at hw'
               rw [← hw']
               refine ih _ ?_ (p + 1) _ _ rfl (by omega) (by omega) ⟨?_, ?_, ?_⟩
               · omega
               · have := hS.1; split <;> omega
               · split
                 · exact Or.inr ⟨h 36 p, ⟨p, p0, by omega, rfl⟩, ⟨hg.1, c67, hg.2⟩, hvv⟩
                 · exact hS.2.1.imp id (fun ⟨f, ⟨q, q0, q1, q2⟩, f1, f2⟩ => ⟨f, ⟨q, q0, by omega, q2⟩, f1, f2⟩)
               · rintro f ⟨q, q0, q1, q2⟩ hc
                 by_cases e : q = p
                 · subst e; rw [← q2, ← hvv]; split <;> omega
                 · have := hS.2.2 f ⟨q, q0, by omega, q2⟩ hc
                   split <;> omega)
            | (have hv : ∃ w, w = vl N (h 62) (h 63) d (h 36 p) := ⟨_, rfl⟩
               obtain ⟨w, hw'⟩ := hv
               have hvv := hw'
               unfold vl at hw'
               first
                 | rw [if_neg c79] at hw'
                 | rw [if_pos (Classical.byContradiction c79)] at hw'
               rw [← hw']
               refine ih _ ?_ (p + 1) _ _ rfl (by omega) (by omega) ⟨?_, ?_, ?_⟩
               · omega
               · have := hS.1; split <;> omega
               · split
                 · exact Or.inr ⟨h 36 p, ⟨p, p0, by omega, rfl⟩, ⟨hg.1, c67, hg.2⟩, hvv⟩
                 · exact hS.2.1.imp id (fun ⟨f, ⟨q, q0, q1, q2⟩, f1, f2⟩ => ⟨f, ⟨q, q0, by omega, q2⟩, f1, f2⟩)
               · rintro f ⟨q, q0, q1, q2⟩ hc
                 by_cases e : q = p
                 · subst e; rw [← q2, ← hvv]; split <;> omega
                 · have := hS.2.2 f ⟨q, q0, by omega, q2⟩ hc
                   split <;> omega)
            | (refine ih _ ?_ (p + 1) _ _ rfl (by omega) (by omega) ⟨hS.1, hS.2.1.imp id (fun ⟨f, ⟨q, q0, q1, q2⟩, f1, f2⟩ => ⟨f, ⟨q, q0, by omega, q2⟩, f1, f2⟩), ?_⟩
               · omega
               · rintro f ⟨q, q0, q1, q2⟩ hc
                 by_cases e : q = p
                 · subst e; subst q2; exact absurd hc.2.1 c67
                 · exact hS.2.2 f ⟨q, q0, by omega, q2⟩ hc)
        · skip
          refine wq_iload (i := 5) (q := 72) rfl rfl rfl ?_
          refine wq_aload_n (kk := 1) (q := 73) rfl rfl rfl ?_
          refine wq_iload_n (kk := 2) (q := 74) rfl rfl rfl ?_
          refine wq_iload (i := 7) (q := 76) rfl rfl rfl ?_
          refine wq_callV (q := 79) (m' := m_Ne_isTurn) (R' := rm 1) (As := [_, _]) rfl rfl l_Ba_83 vm_Ne_isTurn rfl rfl rfl (Or.inl ⟨rfl, Nat.le_of_ble_eq_true rfl⟩) (Nat.le_of_ble_eq_true rfl) (Nat.le_of_ble_eq_true rfl) (Nat.le_refl _) (Nat.le_refl _) (Nat.le_of_ble_eq_true rfl) (Ne_isTurn_ok N d (h 36 p) h r hnde hV hN hd (gd (by omega)).1) rfl ?_
          rintro rv h r ⟨rfl, rfl, rfl⟩ -
          refine wq_cif_eq (tgt := 92) (q := 82) rfl rfl rfl (fun c79 => ?_) (fun c79 => ?_)
          · skip
            refine wq_aload_n (kk := 0) (q := 93) rfl rfl rfl ?_
            refine wq_getR (q := 96) f_Ba_21 rfl rfl (Or.inl ⟨rfl, Nat.le_of_ble_eq_true rfl⟩) hnow rfl rfl ?_
            refine wq_iload (i := 7) (q := 98) rfl rfl rfl ?_
            refine wq_iald (q := 99) rfl (Or.inl ⟨rfl, Nat.le_of_ble_eq_true rfl⟩) rfl rfl (by first | omega | (have y := gd (by omega); have y1 := y.1.1; have y2 := y.1.2; omega)) (by first | omega | (have y := gd (by omega); have y1 := y.1.1; have y2 := y.1.2; omega)) ?_
            refine wq_min (q := 102) k_Ba_86 k_math_min k_math_min_s k_math_i rfl rfl (Nat.le_of_ble_eq_true rfl) (Nat.le_of_ble_eq_true rfl) (Nat.le_refl _) (Nat.le_refl _) (Nat.le_of_ble_eq_true rfl) ?_
            refine wq_istore (i := 5) (q := 104) rfl rfl (Nat.le_of_ble_eq_true rfl) rfl ?_
            refine wq_iinc (i := 6) (n := 1) (q := 107) rfl rfl rfl (Nat.le_of_ble_eq_true rfl) rfl (by first | omega | (have y := gd (by omega); have y1 := y.1.1; have y2 := y.1.2; omega)) (by first | omega | (have y := gd (by omega); have y1 := y.1.1; have y2 := y.1.2; omega)) ?_
            refine wq_goto (tgt := 37) rfl rfl ?_
            have hg := gd (by omega)
            first
              | (have hv : ∃ w, w = vl N (h 63) (h 62) d (h 36 p) := ⟨_, rfl⟩
                 obtain ⟨w, hw'⟩ := hv
                 have hvv := hw'
                 unfold vl at hw'
                 first
                   | rw [if_neg c79] at hw'
                   | rw [if_pos (Classical.byContradiction c79)] at hw'
                 rw [← hw']
                 refine ih _ ?_ (p + 1) _ _ rfl (by omega) (by omega) ⟨?_, ?_, ?_⟩
                 · omega
                 · have := hS.1; split <;> omega
                 · split
                   · exact Or.inr ⟨h 36 p, ⟨p, p0, by omega, rfl⟩, ⟨hg.1, c67, hg.2⟩, hvv⟩
                   · exact hS.2.1.imp id (fun ⟨f, ⟨q, q0, q1, q2⟩, f1, f2⟩ => ⟨f, ⟨q, q0, by omega, q2⟩, f1, f2⟩)
                 · rintro f ⟨q, q0, q1, q2⟩ hc
                   by_cases e : q = p
                   · subst e; rw [← q2, ← hvv]; split <;> omega
                   · have := hS.2.2 f ⟨q, q0, by omega, q2⟩ hc
                     split <;> omega)
              | (have hv : ∃ w, w = vl N (h 62) (h 63) d (h 36 p) := ⟨_, rfl⟩
                 obtain ⟨w, hw'⟩ := hv
                 have hvv := hw'
                 unfold vl at hw'
                 first
                   | rw [if_neg c79] at hw'
                   | rw [if_pos (Classical.byContradiction c79)] at hw'
                 rw [← hw']
                 refine ih _ ?_ (p + 1) _ _ rfl (by omega) (by omega) ⟨?_, ?_, ?_⟩
                 · omega
                 · have := hS.1; split <;> omega
                 · split
                   · exact Or.inr ⟨h 36 p, ⟨p, p0, by omega, rfl⟩, ⟨hg.1, c67, hg.2⟩, hvv⟩
                   · exact hS.2.1.imp id (fun ⟨f, ⟨q, q0, q1, q2⟩, f1, f2⟩ => ⟨f, ⟨q, q0, by omega, q2⟩, f1, f2⟩)
                 · rintro f ⟨q, q0, q1, q2⟩ hc
                   by_cases e : q = p
                   · subst e; rw [← q2, ← hvv]; split <;> omega
                   · have := hS.2.2 f ⟨q, q0, by omega, q2⟩ hc
                     split <;> omega)
              | (refine ih _ ?_ (p + 1) _ _ rfl (by omega) (by omega) ⟨hS.1, hS.2.1.imp id (fun ⟨f, ⟨q, q0, q1, q2⟩, f1, f2⟩ => ⟨f, ⟨q, q0, by omega, q2⟩, f1, f2⟩), ?_⟩
                 · omega
                 · rintro f ⟨q, q0, q1, q2⟩ hc
                   by_cases e : q = p
                   · subst e; subst q2; exact absurd hc.2.1 c67
                   · exact hS.2.2 f ⟨q, q0, by omega, q2⟩ hc)
          · skip
            refine wq_aload_n (kk := 0) (q := 83) rfl rfl rfl ?_
            refine wq_getR (q := 86) f_Ba_24 rfl rfl (Or.inl ⟨rfl, Nat.le_of_ble_eq_true rfl⟩) hfew rfl rfl ?_
            refine wq_iload (i := 7) (q := 88) rfl rfl rfl ?_
            refine wq_iald (q := 89) rfl (Or.inl ⟨rfl, Nat.le_of_ble_eq_true rfl⟩) rfl rfl (by first | omega | (have y := gd (by omega); have y1 := y.1.1; have y2 := y.1.2; omega)) (by first | omega | (have y := gd (by omega); have y1 := y.1.1; have y2 := y.1.2; omega)) ?_
            refine wq_goto (tgt := 99) rfl rfl ?_
            refine wq_min (q := 102) k_Ba_86 k_math_min k_math_min_s k_math_i rfl rfl (Nat.le_of_ble_eq_true rfl) (Nat.le_of_ble_eq_true rfl) (Nat.le_refl _) (Nat.le_refl _) (Nat.le_of_ble_eq_true rfl) ?_
            refine wq_istore (i := 5) (q := 104) rfl rfl (Nat.le_of_ble_eq_true rfl) rfl ?_
            refine wq_iinc (i := 6) (n := 1) (q := 107) rfl rfl rfl (Nat.le_of_ble_eq_true rfl) rfl (by first | omega | (have y := gd (by omega); have y1 := y.1.1; have y2 := y.1.2; omega)) (by first | omega | (have y := gd (by omega); have y1 := y.1.1; have y2 := y.1.2; omega)) ?_
            refine wq_goto (tgt := 37) rfl rfl ?_
            have hg := gd (by omega)
            first
              | (have hv : ∃ w, w = vl N (h 63) (h 62) d (h 36 p) := ⟨_, rfl⟩
                 obtain ⟨w, hw'⟩ := hv
                 have hvv := hw'
                 unfold vl at hw'
                 first
                   | rw [if_neg c79] at hw'
                   | rw [if_pos (Classical.byContradiction c79)] at hw'
                 rw [← hw']
                 refine ih _ ?_ (p + 1) _ _ rfl (by omega) (by omega) ⟨?_, ?_, ?_⟩
                 · omega
                 · have := hS.1; split <;> omega
                 · split
                   · exact Or.inr ⟨h 36 p, ⟨p, p0, by omega, rfl⟩, ⟨hg.1, c67, hg.2⟩, hvv⟩
                   · exact hS.2.1.imp id (fun ⟨f, ⟨q, q0, q1, q2⟩, f1, f2⟩ => ⟨f, ⟨q, q0, by omega, q2⟩, f1, f2⟩)
                 · rintro f ⟨q, q0, q1, q2⟩ hc
                   by_cases e : q = p
                   · subst e; rw [← q2, ← hvv]; split <;> omega
                   · have := hS.2.2 f ⟨q, q0, by omega, q2⟩ hc
                     split <;> omega)
              | (have hv : ∃ w, w = vl N (h 62) (h 63) d (h 36 p) := ⟨_, rfl⟩
                 obtain ⟨w, hw'⟩ := hv
                 have hvv := hw'
                 unfold vl at hw'
                 first
                   | rw [if_neg c79] at hw'
                   | rw [if_pos (Classical.byContradiction c79)] at hw'
                 rw [← hw']
                 refine ih _ ?_ (p + 1) _ _ rfl (by omega) (by omega) ⟨?_, ?_, ?_⟩
                 · omega
                 · have := hS.1; split <;> omega
                 · split
                   · exact Or.inr ⟨h 36 p, ⟨p, p0, by omega, rfl⟩, ⟨hg.1, c67, hg.2⟩, hvv⟩
                   · exact hS.2.1.imp id (fun ⟨f, ⟨q, q0, q1, q2⟩, f1, f2⟩ => ⟨f, ⟨q, q0, by omega, q2⟩, f1, f2⟩)
                 · rintro f ⟨q, q0, q1, q2⟩ hc
                   by_cases e : q = p
                   · subst e; rw [← q2, ← hvv]; split <;> omega
                   · have := hS.2.2 f ⟨q, q0, by omega, q2⟩ hc
                     split <;> omega)
              | (refine ih _ ?_ (p + 1) _ _ rfl (by omega) (by omega) ⟨hS.1, hS.2.1.imp id (fun ⟨f, ⟨q, q0, q1, q2⟩, f1, f2⟩ => ⟨f, ⟨q, q0, by omega, q2⟩, f1, f2⟩), ?_⟩
                 · omega
                 · rintro f ⟨q, q0, q1, q2⟩ hc
                   by_cases e : q = p
                   · subst e; subst q2; exact absurd hc.2.1 c67
                   · exact hS.2.2 f ⟨q, q0, by omega, q2⟩ hc)
abbrev swQ (nw fw : Nat) (N : mN) (d b : Int) (h : mH) (r : mR) : mP := fun rv h1 r1 => ∃ v, rv = some (vI v) ∧ h1 = h ∧ r1 = r ∧ (dst N d = b → v = ar N d) ∧ (dst N d ≠ b → SW N b (h fw) (h nw) d v (fun _ => True))
set_option maxRecDepth 100000 in
set_option maxHeartbeats 1000000 in
theorem Ba_soonestWith_ok (nw fw : Nat) (N : mN) (d b : Int) (h : mH) (r : mR) (hB : isB nw fw r) (hw : netW h r N) (hd : dp N d) : Meets true (rm 3) m_Ba_soonestWith [vR 58, vR 31, vI d, vI b] h r (swQ nw fw N d b h r) := by
  obtain ⟨hnde, hV, hN, hO, hG⟩ := id hw
  have hve := hV.2.2.1 d hd
  have hn := hV.1
  have hS := hV.2.1
  have hd0 := hd.1
  have hd1 := hd.2
  have hnd := hN.2.2.1 d hd
  have g1 := hG.1 (dst N d) (by omega) (by omega)
  refine ⟨ok_Ba_soonestWith, Nat.le_of_ble_eq_true rfl, ?_⟩
  refine wq_aload_n (kk := 1) (q := 1) rfl rfl rfl ?_
  refine wq_getR (q := 4) f_Ba_61 rfl rfl (Or.inl ⟨rfl, Nat.le_of_ble_eq_true rfl⟩) hnde rfl rfl ?_
  refine wq_getF (q := 7) f_Ba_65 rfl rfl (Nat.le_of_ble_eq_true rfl) rfl rfl rfl ?_
  refine wq_iload_n (kk := 2) (q := 8) rfl rfl rfl ?_
  refine wq_iald (q := 9) rfl (Or.inl ⟨rfl, Nat.le_of_ble_eq_true rfl⟩) rfl rfl (by first | omega | (simp [hup]; omega)) (by first | omega | (simp [hup]; omega)) ?_
  rw [hnd.2.2.2.1]
  refine wq_istore (i := 4) (q := 11) rfl rfl (Nat.le_of_ble_eq_true rfl) rfl ?_
  refine wq_iload (i := 4) (q := 13) rfl rfl rfl ?_
  refine wq_iload_n (kk := 3) (q := 14) rfl rfl rfl ?_
  refine wq_icmp_ne (tgt := 24) (q := 17) rfl rfl rfl (fun c14 => ?_) (fun c14 => ?_)
  · skip
    refine wq_ldc (n := 1000000) (q := 26) k_Ba_38 rfl rfl rfl ?_
    refine wq_istore (i := 5) (q := 28) rfl rfl (Nat.le_of_ble_eq_true rfl) rfl ?_
    refine wq_aload_n (kk := 1) (q := 29) rfl rfl rfl ?_
    refine wq_getF (q := 32) f_Ba_73 rfl rfl (Nat.le_of_ble_eq_true rfl) rfl rfl rfl ?_
    refine wq_iload (i := 4) (q := 34) rfl rfl rfl ?_
    refine wq_iald (q := 35) rfl (Or.inl ⟨rfl, Nat.le_of_ble_eq_true rfl⟩) rfl rfl (by first | omega | (simp [hup]; omega)) (by first | omega | (simp [hup]; omega)) ?_
    refine wq_istore (i := 6) (q := 37) rfl rfl (Nat.le_of_ble_eq_true rfl) rfl ?_
    have q := Ba_swA nw fw N d b h r hB hw hd _ (h 37 (dst N d)) 1000000 none rfl (Int.le_refl _) (by omega) ⟨by omega, Or.inl rfl, by rintro f ⟨q, q0, q1, -⟩; omega⟩
    refine WP.trans q (fun pc ls st h2 r2 u hx => WP.exit ⟨hx.1, hx.2.1, hx.2.2.imp (fun ⟨z1, x, z2, z3, z4⟩ => ⟨z1, x, z2, z3, ?_⟩) (fun z => z.imp (fun ⟨z1, z2, z3, z4⟩ => ⟨z1, z2, z3, ?_⟩) (fun ⟨z1, x, z2, z3, z4⟩ => ⟨z1, x, z2, z3, ?_⟩))⟩)
    all_goals
      obtain ⟨v, w1, w2, w3, w4⟩ := z4
      exact ⟨v, w1, w2, w3, fun z => absurd z c14, fun _ => w4⟩
  · skip
    refine wq_aload_n (kk := 1) (q := 18) rfl rfl rfl ?_
    refine wq_getF (q := 21) f_Ba_70 rfl rfl (Nat.le_of_ble_eq_true rfl) rfl rfl rfl ?_
    refine wq_iload_n (kk := 2) (q := 22) rfl rfl rfl ?_
    refine wq_iald (q := 23) rfl (Or.inl ⟨rfl, Nat.le_of_ble_eq_true rfl⟩) rfl rfl (by first | omega | (simp [hup]; omega)) (by first | omega | (simp [hup]; omega)) ?_
    rw [hnd.2.1]
    exact wq_iret rfl rfl (Nat.le_refl _) (Nat.le_refl _) ⟨_, rfl, rfl, rfl, fun _ => rfl, fun z => absurd (by omega) z⟩

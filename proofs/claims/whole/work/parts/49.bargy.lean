set_option maxRecDepth 100000 in
set_option maxHeartbeats 1000000 in
theorem Ba_allow_ok (nw fw : Nat) (N : mN) (b : Int) (h : mH) (r : mR) (hB : isB nw fw r) (hw : netW h r N) (hp : ∀ f, dp N f → rn N f ≠ 1 → h nw f = 1000000) : Meets true (rm 4) m_Ba_allowOneMore [vR 58, vR 31, vI b] h r (aoQ nw fw N b h r) := by
  have hn := hw.2.1.1
  have e31 := hw.2.2.1.1
  have hids := hB.1
  obtain ⟨-, hnow, hfew⟩ := id hB
  rcases hids with ⟨rfl, rfl⟩ | ⟨rfl, rfl⟩
  · refine ⟨ok_Ba_allowOneMore, Nat.le_of_ble_eq_true rfl, ?_⟩
    refine wq_aload_n (kk := 0) (q := 1) rfl rfl rfl ?_
    refine wq_getR (q := 4) f_Ba_21 rfl rfl (Or.inl ⟨rfl, Nat.le_of_ble_eq_true rfl⟩) hnow rfl rfl ?_
    refine wq_astore_n (kk := 3) (q := 5) rfl rfl (Nat.le_of_ble_eq_true rfl) rfl ?_
    refine wq_aload_n (kk := 0) (q := 6) rfl rfl rfl ?_
    refine wq_aload_n (kk := 0) (q := 7) rfl rfl rfl ?_
    refine wq_getR (q := 10) f_Ba_24 rfl rfl (Or.inl ⟨rfl, Nat.le_of_ble_eq_true rfl⟩) hfew rfl rfl ?_
    refine wq_putR (q := 13) f_Ba_21 rfl rfl rfl (Or.inl ⟨rfl, Nat.le_of_ble_eq_true rfl⟩) (Or.inl ⟨rfl, Nat.le_of_ble_eq_true rfl⟩) (fun _ => rfl) rfl rfl ?_
    refine wq_aload_n (kk := 0) (q := 14) rfl rfl rfl ?_
    refine wq_aload_n (kk := 3) (q := 15) rfl rfl rfl ?_
    refine wq_putR (q := 18) f_Ba_24 rfl rfl rfl (Or.inl ⟨rfl, Nat.le_of_ble_eq_true rfl⟩) (Or.inl ⟨rfl, Nat.le_of_ble_eq_true rfl⟩) (fun _ => rfl) rfl rfl ?_
    refine wq_iconst (n := 0) (q := 19) rfl rfl rfl ?_
    refine wq_istore (i := 4) (q := 21) rfl rfl (Nat.le_of_ble_eq_true rfl) rfl ?_
    refine wq_aload_n (kk := 1) (q := 22) rfl rfl rfl ?_
    refine wq_getI (kz := 0) (q := 25) rfl f_Ba_35 rfl rfl (Or.inl ⟨rfl, Nat.le_of_ble_eq_true rfl⟩) rfl rfl ?_
    refine wq_iconst (n := 1) (q := 26) rfl rfl rfl ?_
    refine wq_isub (q := 27) rfl rfl (by first | omega | (simp [hup]; omega)) (by first | omega | (simp [hup]; omega)) ?_
    refine wq_istore (i := 5) (q := 29) rfl rfl (Nat.le_of_ble_eq_true rfl) rfl ?_
    exact Ba_aoA 62 63 N b h r hB hw hp _ (h 31 0 - 1) 0 h _ rfl (by omega) (by omega) fr.rf (fun j j0 j1 => by omega) (Or.inl ⟨rfl, fun j j0 j1 => by omega⟩)
  · refine ⟨ok_Ba_allowOneMore, Nat.le_of_ble_eq_true rfl, ?_⟩
    refine wq_aload_n (kk := 0) (q := 1) rfl rfl rfl ?_
    refine wq_getR (q := 4) f_Ba_21 rfl rfl (Or.inl ⟨rfl, Nat.le_of_ble_eq_true rfl⟩) hnow rfl rfl ?_
    refine wq_astore_n (kk := 3) (q := 5) rfl rfl (Nat.le_of_ble_eq_true rfl) rfl ?_
    refine wq_aload_n (kk := 0) (q := 6) rfl rfl rfl ?_
    refine wq_aload_n (kk := 0) (q := 7) rfl rfl rfl ?_
    refine wq_getR (q := 10) f_Ba_24 rfl rfl (Or.inl ⟨rfl, Nat.le_of_ble_eq_true rfl⟩) hfew rfl rfl ?_
    refine wq_putR (q := 13) f_Ba_21 rfl rfl rfl (Or.inl ⟨rfl, Nat.le_of_ble_eq_true rfl⟩) (Or.inl ⟨rfl, Nat.le_of_ble_eq_true rfl⟩) (fun _ => rfl) rfl rfl ?_
    refine wq_aload_n (kk := 0) (q := 14) rfl rfl rfl ?_
    refine wq_aload_n (kk := 3) (q := 15) rfl rfl rfl ?_
    refine wq_putR (q := 18) f_Ba_24 rfl rfl rfl (Or.inl ⟨rfl, Nat.le_of_ble_eq_true rfl⟩) (Or.inl ⟨rfl, Nat.le_of_ble_eq_true rfl⟩) (fun _ => rfl) rfl rfl ?_
    refine wq_iconst (n := 0) (q := 19) rfl rfl rfl ?_
    refine wq_istore (i := 4) (q := 21) rfl rfl (Nat.le_of_ble_eq_true rfl) rfl ?_
    refine wq_aload_n (kk := 1) (q := 22) rfl rfl rfl ?_
    refine wq_getI (kz := 0) (q := 25) rfl f_Ba_35 rfl rfl (Or.inl ⟨rfl, Nat.le_of_ble_eq_true rfl⟩) rfl rfl ?_
    refine wq_iconst (n := 1) (q := 26) rfl rfl rfl ?_
    refine wq_isub (q := 27) rfl rfl (by first | omega | (simp [hup]; omega)) (by first | omega | (simp [hup]; omega)) ?_
    refine wq_istore (i := 5) (q := 29) rfl rfl (Nat.le_of_ble_eq_true rfl) rfl ?_
    exact Ba_aoA 63 62 N b h r hB hw hp _ (h 31 0 - 1) 0 h _ rfl (by omega) (by omega) fr.rf (fun j j0 j1 => by omega) (Or.inl ⟨rfl, fun j j0 j1 => by omega⟩)
def SkP (N : mN) (a q B : Int) (v : mF) (P : Int → Prop) (s : Int) : Prop := (s = B ∨ ∃ d, P d ∧ dp N d ∧ frm N d = a ∧ q ≤ lv N d ∧ v d = s) ∧ s ≤ B ∧ ∀ d, P d → dp N d → frm N d = a → q ≤ lv N d → s ≤ v d
set_option maxRecDepth 100000 in
set_option maxHeartbeats 4000000 in
theorem Ba_sfA (nw fw : Nat) (N : mN) (a t : Int) (h : mH) (r : mR) (hB : isB nw fw r) (hw : netW h r N) (ha : 0 ≤ a ∧ a < nS N) (hp : ∀ f, dp N f → rn N f ≠ 1 → h nw f = 1000000) : ∀ (M : Nat) (p v : Int) (z : Option mV), (h 37 (a + 1) - p).toNat = M → h 37 a ≤ p → p ≤ h 37 (a + 1) → SkP N a t 1000000 (h nw) (fun f => ∃ q, h 37 a ≤ q ∧ q < p ∧ h 36 q = f) v → WP (true, rm 2) m_Ba_soonestFrom (rt m_Ba_soonestFrom (rm 2) (fun rv h1 r1 => ∃ v, rv = some (vI v) ∧ h1 = h ∧ r1 = r ∧ Sk N a t 1000000 (h nw) v)) 12 [some (vR 58), some (vR 31), some (vI a), some (vI t), some (vI v), some (vI p), z] [] h r (0, 0) := by
  obtain ⟨hids, hnow, hfew⟩ := hB
  rcases hids with ⟨rfl, rfl⟩ | ⟨rfl, rfl⟩
  all_goals
    intro M
    induction M using Nat.strongRecOn with
    | ind M ih =>
      intro p v z hM p0 p1 hS
      obtain ⟨hnde, hV, hN, hO, hG⟩ := id hw
      have hn := hV.1
      have hSs := hV.2.1
      have g1 := hG.1 a ha.1 ha.2
      have gd : p < h 37 (a + 1) → dp N (h 36 p) ∧ frm N (h 36 p) = a := fun y => hG.2.1 a p ha.1 ha.2 p0 y
      have el : p < h 37 (a + 1) → h 32 (h 36 p) = lv N (h 36 p) := fun y => (hN.2.2.1 _ (gd y).1).1
      refine wq_iload (i := 5) (q := 14) rfl rfl rfl ?_
      refine wq_aload_n (kk := 1) (q := 15) rfl rfl rfl ?_
      refine wq_getF (q := 18) f_Ba_73 rfl rfl (Nat.le_of_ble_eq_true rfl) rfl rfl rfl ?_
      refine wq_iload_n (kk := 2) (q := 19) rfl rfl rfl ?_
      refine wq_iconst (n := 1) (q := 20) rfl rfl rfl ?_
      refine wq_iadd (q := 21) rfl rfl (by first | omega | (have y := gd (by omega); have y1 := y.1.1; have y2 := y.1.2; omega)) (by first | omega | (have y := gd (by omega); have y1 := y.1.1; have y2 := y.1.2; omega)) ?_
      refine wq_iald (q := 22) rfl (Or.inl ⟨rfl, Nat.le_of_ble_eq_true rfl⟩) rfl rfl (by first | omega | (have y := gd (by omega); have y1 := y.1.1; have y2 := y.1.2; omega)) (by first | omega | (have y := gd (by omega); have y1 := y.1.1; have y2 := y.1.2; omega)) ?_
      refine wq_icmp_ge (tgt := 65) (q := 25) rfl rfl rfl (fun c22 => ?_) (fun c22 => ?_)
      · skip
        refine wq_iload (i := 4) (q := 67) rfl rfl rfl ?_
        refine wq_iret rfl rfl (Nat.le_refl _) (Nat.le_refl _) ⟨v, rfl, rfl, rfl, ?_, hS.2.1, fun d d1 _ d2 d3 => ?_⟩
        · rcases hS.1 with q | ⟨d, -, d1, d2, d3, d4⟩
          · exact Or.inl q
          · by_cases hr : rn N d = 1
            · exact Or.inr ⟨d, d1, hr, d2, d3, d4⟩
            · exact Or.inl (by rw [← d4]; exact hp d d1 hr)
        · obtain ⟨q, q0, q1, q2⟩ := hG.2.2.1 d d1
          rw [d2] at q0 q1
          exact hS.2.2 d ⟨q, q0, by omega, q2⟩ d1 d2 d3
      · skip
        refine wq_aload_n (kk := 1) (q := 26) rfl rfl rfl ?_
        refine wq_getF (q := 29) f_Ba_76 rfl rfl (Nat.le_of_ble_eq_true rfl) rfl rfl rfl ?_
        refine wq_iload (i := 5) (q := 31) rfl rfl rfl ?_
        refine wq_iald (q := 32) rfl (Or.inl ⟨rfl, Nat.le_of_ble_eq_true rfl⟩) rfl rfl (by first | omega | (have y := gd (by omega); have y1 := y.1.1; have y2 := y.1.2; omega)) (by first | omega | (have y := gd (by omega); have y1 := y.1.1; have y2 := y.1.2; omega)) ?_
        refine wq_istore (i := 6) (q := 34) rfl rfl (Nat.le_of_ble_eq_true rfl) rfl ?_
        refine wq_aload_n (kk := 1) (q := 35) rfl rfl rfl ?_
        refine wq_getF (q := 38) f_Ba_92 rfl rfl (Nat.le_of_ble_eq_true rfl) rfl rfl rfl ?_
        refine wq_iload (i := 6) (q := 40) rfl rfl rfl ?_
        refine wq_iald (q := 41) rfl (Or.inl ⟨rfl, Nat.le_of_ble_eq_true rfl⟩) rfl rfl (by first | omega | (have y := gd (by omega); have y1 := y.1.1; have y2 := y.1.2; omega)) (by first | omega | (have y := gd (by omega); have y1 := y.1.1; have y2 := y.1.2; omega)) ?_
        rw [el (by omega)]
        refine wq_iload_n (kk := 3) (q := 42) rfl rfl rfl ?_
        refine wq_icmp_lt (tgt := 59) (q := 45) rfl rfl rfl (fun c42 => ?_) (fun c42 => ?_)
        · skip
          refine wq_iinc (i := 5) (n := 1) (q := 62) rfl rfl rfl (Nat.le_of_ble_eq_true rfl) rfl (by first | omega | (have y := gd (by omega); have y1 := y.1.1; have y2 := y.1.2; omega)) (by first | omega | (have y := gd (by omega); have y1 := y.1.1; have y2 := y.1.2; omega)) ?_
          refine wq_goto (tgt := 12) rfl rfl ?_
          have hg := gd (by omega)
          first
            | (refine ih _ ?_ (p + 1) _ _ rfl (by omega) (by omega) ⟨hS.1.imp id (fun ⟨d, ⟨q, q0, q1, q2⟩, d1⟩ => ⟨d, ⟨q, q0, by omega, q2⟩, d1⟩), hS.2.1, ?_⟩
               · omega
               · rintro d ⟨q, q0, q1, q2⟩ d1 d2 d3
                 by_cases e : q = p
                 · subst e; subst q2; exfalso; omega
                 · exact hS.2.2 d ⟨q, q0, by omega, q2⟩ d1 d2 d3)
            | (refine ih _ ?_ (p + 1) _ _ rfl (by omega) (by omega) ⟨?_, ?_, ?_⟩
               · omega
               · split
                 · exact Or.inr ⟨h 36 p, ⟨p, p0, by omega, rfl⟩, hg.1, hg.2, by omega, rfl⟩
                 · exact hS.1.imp id (fun ⟨d, ⟨q, q0, q1, q2⟩, d1⟩ => ⟨d, ⟨q, q0, by omega, q2⟩, d1⟩)
               · have := hS.2.1; split <;> omega
               · rintro d ⟨q, q0, q1, q2⟩ d1 d2 d3
                 by_cases e : q = p
                 · subst e; subst q2; split <;> omega
                 · have := hS.2.2 d ⟨q, q0, by omega, q2⟩ d1 d2 d3
                   split <;> omega)
        · skip
          refine wq_iload (i := 4) (q := 47) rfl rfl rfl ?_
          refine wq_aload_n (kk := 0) (q := 48) rfl rfl rfl ?_
          refine wq_getR (q := 51) f_Ba_21 rfl rfl (Or.inl ⟨rfl, Nat.le_of_ble_eq_true rfl⟩) hnow rfl rfl ?_
          refine wq_iload (i := 6) (q := 53) rfl rfl rfl ?_
          refine wq_iald (q := 54) rfl (Or.inl ⟨rfl, Nat.le_of_ble_eq_true rfl⟩) rfl rfl (by first | omega | (have y := gd (by omega); have y1 := y.1.1; have y2 := y.1.2; omega)) (by first | omega | (have y := gd (by omega); have y1 := y.1.1; have y2 := y.1.2; omega)) ?_
          refine wq_min (q := 57) k_Ba_86 k_math_min k_math_min_s k_math_i rfl rfl (Nat.le_of_ble_eq_true rfl) (Nat.le_of_ble_eq_true rfl) (Nat.le_refl _) (Nat.le_refl _) (Nat.le_of_ble_eq_true rfl) ?_
          refine wq_istore (i := 4) (q := 59) rfl rfl (Nat.le_of_ble_eq_true rfl) rfl ?_
          refine wq_iinc (i := 5) (n := 1) (q := 62) rfl rfl rfl (Nat.le_of_ble_eq_true rfl) rfl (by first | omega | (have y := gd (by omega); have y1 := y.1.1; have y2 := y.1.2; omega)) (by first | omega | (have y := gd (by omega); have y1 := y.1.1; have y2 := y.1.2; omega)) ?_
          refine wq_goto (tgt := 12) rfl rfl ?_
          have hg := gd (by omega)
          first
            | (refine ih _ ?_ (p + 1) _ _ rfl (by omega) (by omega) ⟨hS.1.imp id (fun ⟨d, ⟨q, q0, q1, q2⟩, d1⟩ => ⟨d, ⟨q, q0, by omega, q2⟩, d1⟩), hS.2.1, ?_⟩
               · omega
               · rintro d ⟨q, q0, q1, q2⟩ d1 d2 d3
                 by_cases e : q = p
                 · subst e; subst q2; exfalso; omega
                 · exact hS.2.2 d ⟨q, q0, by omega, q2⟩ d1 d2 d3)
            | (refine ih _ ?_ (p + 1) _ _ rfl (by omega) (by omega) ⟨?_, ?_, ?_⟩
               · omega
               · split
                 · exact Or.inr ⟨h 36 p, ⟨p, p0, by omega, rfl⟩, hg.1, hg.2, by omega, rfl⟩
                 · exact hS.1.imp id (fun ⟨d, ⟨q, q0, q1, q2⟩, d1⟩ => ⟨d, ⟨q, q0, by omega, q2⟩, d1⟩)
               · have := hS.2.1; split <;> omega
               · rintro d ⟨q, q0, q1, q2⟩ d1 d2 d3
                 by_cases e : q = p
                 · subst e; subst q2; split <;> omega
                 · have := hS.2.2 d ⟨q, q0, by omega, q2⟩ d1 d2 d3
                   split <;> omega)
set_option maxRecDepth 100000 in
theorem Ba_soonestFrom_ok (nw fw : Nat) (N : mN) (a t : Int) (h : mH) (r : mR) (hB : isB nw fw r) (hw : netW h r N) (ha : 0 ≤ a ∧ a < nS N) (hp : ∀ f, dp N f → rn N f ≠ 1 → h nw f = 1000000) : Meets true (rm 2) m_Ba_soonestFrom [vR 58, vR 31, vI a, vI t] h r (fun rv h1 r1 => ∃ v, rv = some (vI v) ∧ h1 = h ∧ r1 = r ∧ Sk N a t 1000000 (h nw) v) := by
  have g1 := hw.2.2.2.2.1 a ha.1 ha.2
  have hS := hw.2.1.2.1
  refine ⟨ok_Ba_soonestFrom, Nat.le_of_ble_eq_true rfl, ?_⟩
  refine wq_ldc (n := 1000000) (q := 2) k_Ba_38 rfl rfl rfl ?_
  refine wq_istore (i := 4) (q := 4) rfl rfl (Nat.le_of_ble_eq_true rfl) rfl ?_
  refine wq_aload_n (kk := 1) (q := 5) rfl rfl rfl ?_
  refine wq_getF (q := 8) f_Ba_73 rfl rfl (Nat.le_of_ble_eq_true rfl) rfl rfl rfl ?_
  refine wq_iload_n (kk := 2) (q := 9) rfl rfl rfl ?_
  refine wq_iald (q := 10) rfl (Or.inl ⟨rfl, Nat.le_of_ble_eq_true rfl⟩) rfl rfl (by first | omega | (simp [hup]; omega)) (by first | omega | (simp [hup]; omega)) ?_
  refine wq_istore (i := 5) (q := 12) rfl rfl (Nat.le_of_ble_eq_true rfl) rfl ?_
  exact Ba_sfA nw fw N a t h r hB hw ha hp _ _ _ _ rfl (Int.le_refl _) (by omega) ⟨Or.inl rfl, by omega, by rintro d ⟨q, q0, q1, -⟩; omega⟩
def LsP (N : mN) (a t : Int) (c : mF) (s v : Int) : Prop := v = t ∨ ∃ d, dp N d ∧ frm N d = a ∧ t ≤ lv N d ∧ c d = s ∧ v = lv N d
set_option maxRecDepth 100000 in
set_option maxHeartbeats 4000000 in
theorem Ba_lsA (nw fw : Nat) (N : mN) (a t s : Int) (h : mH) (r : mR) (hB : isB nw fw r) (hw : netW h r N) (ha : 0 ≤ a ∧ a < nS N) (hp : ∀ f, dp N f → rn N f ≠ 1 → h nw f = 1000000) (hs : s < 1000000) (hx : Sk N a t 1000000 (h nw) s) : ∀ (M : Nat) (p v : Int) (z : Option mV), (h 37 (a + 1) - p).toNat = M → h 37 a ≤ p → p ≤ h 37 (a + 1) → t ≤ v → LsP N a t (h nw) s v → (∀ q, h 37 a ≤ q → q < p → h nw (h 36 q) = s → lv N (h 36 q) ≤ v) → WP (true, rm 2) m_Ba_latestStart (rt m_Ba_latestStart (rm 2) (fun rv h1 r1 => ∃ v, rv = some (vI v) ∧ h1 = h ∧ r1 = r ∧ Ls N a t (h nw) s v)) 11 [some (vR 58), some (vR 31), some (vI a), some (vI t), some (vI s), some (vI v), some (vI p), z] [] h r (0, 0) := by
  obtain ⟨hids, hnow, hfew⟩ := hB
  rcases hids with ⟨rfl, rfl⟩ | ⟨rfl, rfl⟩
  all_goals
    intro M
    induction M using Nat.strongRecOn with
    | ind M ih =>
      intro p v z hM p0 p1 hv0 hv1 hv2
      obtain ⟨hnde, hV, hN, hO, hG⟩ := id hw
      have hn := hV.1
      have hSs := hV.2.1
      have g1 := hG.1 a ha.1 ha.2
      have gd : p < h 37 (a + 1) → dp N (h 36 p) ∧ frm N (h 36 p) = a := fun y => hG.2.1 a p ha.1 ha.2 p0 y
      have el : p < h 37 (a + 1) → h 32 (h 36 p) = lv N (h 36 p) := fun y => (hN.2.2.1 _ (gd y).1).1
      refine wq_iload (i := 6) (q := 13) rfl rfl rfl ?_
      refine wq_aload_n (kk := 1) (q := 14) rfl rfl rfl ?_
      refine wq_getF (q := 17) f_Ba_73 rfl rfl (Nat.le_of_ble_eq_true rfl) rfl rfl rfl ?_
      refine wq_iload_n (kk := 2) (q := 18) rfl rfl rfl ?_
      refine wq_iconst (n := 1) (q := 19) rfl rfl rfl ?_
      refine wq_iadd (q := 20) rfl rfl (by first | omega | (have y := gd (by omega); have y1 := y.1.1; have y2 := y.1.2; omega)) (by first | omega | (have y := gd (by omega); have y1 := y.1.1; have y2 := y.1.2; omega)) ?_
      refine wq_iald (q := 21) rfl (Or.inl ⟨rfl, Nat.le_of_ble_eq_true rfl⟩) rfl rfl (by first | omega | (have y := gd (by omega); have y1 := y.1.1; have y2 := y.1.2; omega)) (by first | omega | (have y := gd (by omega); have y1 := y.1.1; have y2 := y.1.2; omega)) ?_
      refine wq_icmp_ge (tgt := 65) (q := 24) rfl rfl rfl (fun c21 => ?_) (fun c21 => ?_)
      · skip
        refine wq_iload (i := 5) (q := 67) rfl rfl rfl ?_
        have all : ∀ d, dp N d → frm N d = a → h _ d = s → lv N d ≤ v := fun d d1 d2 d3 => by
          obtain ⟨q, q0, q1, q2⟩ := hG.2.2.1 d d1
          rw [d2] at q0 q1
          have := hv2 q q0 (by omega) (by rw [q2]; exact d3)
          rw [q2] at this
          exact this
        refine wq_iret rfl rfl (Nat.le_refl _) (Nat.le_refl _) ⟨v, rfl, rfl, rfl, ?_, fun d d1 _ d2 _ d3 => all d d1 d2 d3⟩
        rcases hv1 with q | ⟨d, d1, d2, d3, d4, d5⟩
        · obtain ⟨d, d1, d2, d3, d4, d5⟩ := hx.1.resolve_left (by omega)
          have := all d d1 d3 d5
          exact ⟨d, d1, d2, d3, d4, d5, by omega⟩
        · by_cases hr : rn N d = 1
          · exact ⟨d, d1, hr, d2, d3, d4, d5⟩
          · have := hp d d1 hr
            omega
      · skip
        refine wq_aload_n (kk := 1) (q := 25) rfl rfl rfl ?_
        refine wq_getF (q := 28) f_Ba_76 rfl rfl (Nat.le_of_ble_eq_true rfl) rfl rfl rfl ?_
        refine wq_iload (i := 6) (q := 30) rfl rfl rfl ?_
        refine wq_iald (q := 31) rfl (Or.inl ⟨rfl, Nat.le_of_ble_eq_true rfl⟩) rfl rfl (by first | omega | (have y := gd (by omega); have y1 := y.1.1; have y2 := y.1.2; omega)) (by first | omega | (have y := gd (by omega); have y1 := y.1.1; have y2 := y.1.2; omega)) ?_
        refine wq_istore (i := 7) (q := 33) rfl rfl (Nat.le_of_ble_eq_true rfl) rfl ?_
        refine wq_aload_n (kk := 0) (q := 34) rfl rfl rfl ?_
        refine wq_getR (q := 37) f_Ba_21 rfl rfl (Or.inl ⟨rfl, Nat.le_of_ble_eq_true rfl⟩) hnow rfl rfl ?_
        refine wq_iload (i := 7) (q := 39) rfl rfl rfl ?_
        refine wq_iald (q := 40) rfl (Or.inl ⟨rfl, Nat.le_of_ble_eq_true rfl⟩) rfl rfl (by first | omega | (have y := gd (by omega); have y1 := y.1.1; have y2 := y.1.2; omega)) (by first | omega | (have y := gd (by omega); have y1 := y.1.1; have y2 := y.1.2; omega)) ?_
        refine wq_iload (i := 4) (q := 42) rfl rfl rfl ?_
        refine wq_icmp_ne (tgt := 59) (q := 45) rfl rfl rfl (fun c42 => ?_) (fun c42 => ?_)
        · skip
          refine wq_iinc (i := 6) (n := 1) (q := 62) rfl rfl rfl (Nat.le_of_ble_eq_true rfl) rfl (by first | omega | (have y := gd (by omega); have y1 := y.1.1; have y2 := y.1.2; omega)) (by first | omega | (have y := gd (by omega); have y1 := y.1.1; have y2 := y.1.2; omega)) ?_
          refine wq_goto (tgt := 11) rfl rfl ?_
          have hg := gd (by omega)
          first
            | (refine ih _ ?_ (p + 1) _ _ rfl (by omega) (by omega) hv0 hv1 (fun q q0 q1 q2 => ?_)
               · omega
               · by_cases e : q = p
                 · subst e; exact absurd q2 c42
                 · exact hv2 q q0 (by omega) q2)
            | (refine ih _ ?_ (p + 1) _ _ rfl (by omega) (by omega) (by split <;> omega) ?_ (fun q q0 q1 q2 => ?_)
               · omega
               · split
                 · exact Or.inr ⟨h 36 p, hg.1, hg.2, by omega, by omega, rfl⟩
                 · exact hv1
               · by_cases e : q = p
                 · subst e; split <;> omega
                 · have := hv2 q q0 (by omega) q2
                   split <;> omega)
        · skip
          refine wq_iload (i := 5) (q := 47) rfl rfl rfl ?_
          refine wq_aload_n (kk := 1) (q := 48) rfl rfl rfl ?_
          refine wq_getF (q := 51) f_Ba_92 rfl rfl (Nat.le_of_ble_eq_true rfl) rfl rfl rfl ?_
          refine wq_iload (i := 7) (q := 53) rfl rfl rfl ?_
          refine wq_iald (q := 54) rfl (Or.inl ⟨rfl, Nat.le_of_ble_eq_true rfl⟩) rfl rfl (by first | omega | (have y := gd (by omega); have y1 := y.1.1; have y2 := y.1.2; omega)) (by first | omega | (have y := gd (by omega); have y1 := y.1.1; have y2 := y.1.2; omega)) ?_
          rw [el (by omega)]
          refine wq_max (q := 57) k_Ba_95 k_math_max k_math_max_s k_math_i rfl rfl (Nat.le_of_ble_eq_true rfl) (Nat.le_of_ble_eq_true rfl) (Nat.le_refl _) (Nat.le_refl _) (Nat.le_of_ble_eq_true rfl) ?_
          refine wq_istore (i := 5) (q := 59) rfl rfl (Nat.le_of_ble_eq_true rfl) rfl ?_
          refine wq_iinc (i := 6) (n := 1) (q := 62) rfl rfl rfl (Nat.le_of_ble_eq_true rfl) rfl (by first | omega | (have y := gd (by omega); have y1 := y.1.1; have y2 := y.1.2; omega)) (by first | omega | (have y := gd (by omega); have y1 := y.1.1; have y2 := y.1.2; omega)) ?_
          refine wq_goto (tgt := 11) rfl rfl ?_
          have hg := gd (by omega)
          first
            | (refine ih _ ?_ (p + 1) _ _ rfl (by omega) (by omega) hv0 hv1 (fun q q0 q1 q2 => ?_)
               · omega
               · by_cases e : q = p
                 · subst e; exact absurd q2 c42
                 · exact hv2 q q0 (by omega) q2)
            | (refine ih _ ?_ (p + 1) _ _ rfl (by omega) (by omega) (by split <;> omega) ?_ (fun q q0 q1 q2 => ?_)
               · omega
               · split
                 · exact Or.inr ⟨h 36 p, hg.1, hg.2, by omega, by omega, rfl⟩
                 · exact hv1
               · by_cases e : q = p
                 · subst e; split <;> omega
                 · have := hv2 q q0 (by omega) q2
                   split <;> omega)
set_option maxRecDepth 100000 in
theorem Ba_latestStart_ok (nw fw : Nat) (N : mN) (a t s : Int) (h : mH) (r : mR) (hB : isB nw fw r) (hw : netW h r N) (ha : 0 ≤ a ∧ a < nS N) (hp : ∀ f, dp N f → rn N f ≠ 1 → h nw f = 1000000) (hs : s < 1000000) (hx : Sk N a t 1000000 (h nw) s) : Meets true (rm 2) m_Ba_latestStart [vR 58, vR 31, vI a, vI t, vI s] h r (fun rv h1 r1 => ∃ v, rv = some (vI v) ∧ h1 = h ∧ r1 = r ∧ Ls N a t (h nw) s v) := by
  have g1 := hw.2.2.2.2.1 a ha.1 ha.2
  have hS := hw.2.1.2.1
  refine ⟨ok_Ba_latestStart, Nat.le_of_ble_eq_true rfl, ?_⟩
  refine wq_iload_n (kk := 3) (q := 1) rfl rfl rfl ?_
  refine wq_istore (i := 5) (q := 3) rfl rfl (Nat.le_of_ble_eq_true rfl) rfl ?_
  refine wq_aload_n (kk := 1) (q := 4) rfl rfl rfl ?_
  refine wq_getF (q := 7) f_Ba_73 rfl rfl (Nat.le_of_ble_eq_true rfl) rfl rfl rfl ?_
  refine wq_iload_n (kk := 2) (q := 8) rfl rfl rfl ?_
  refine wq_iald (q := 9) rfl (Or.inl ⟨rfl, Nat.le_of_ble_eq_true rfl⟩) rfl rfl (by first | omega | (simp [hup]; omega)) (by first | omega | (simp [hup]; omega)) ?_
  refine wq_istore (i := 6) (q := 11) rfl rfl (Nat.le_of_ble_eq_true rfl) rfl ?_
  exact Ba_lsA nw fw N a t s h r hB hw ha hp hs hx _ _ _ _ rfl (Int.le_refl _) (by omega) (Int.le_refl _) (Or.inl rfl) (fun q q0 q1 => by omega)
set_option maxRecDepth 100000 in
set_option maxHeartbeats 1000000 in
theorem Ba_add_ok (E T S : Int) (h : mH) (r : mR) (hc : 0 ≤ h 58 0 ∧ h 58 0 < 120) : Meets true (rm 1) m_Ba_add [vR 58, vI E, vI T, vI S] h r (fun rv h1 r1 => rv = none ∧ r1 = r ∧ fr [58, 59, 60, 61] h h1 ∧ h1 58 0 = h 58 0 + 1 ∧ (∀ k, k ≠ h 58 0 → h1 59 k = h 59 k ∧ h1 60 k = h 60 k ∧ h1 61 k = h 61 k) ∧ h1 59 (h 58 0) = E ∧ h1 60 (h 58 0) = T ∧ h1 61 (h 58 0) = S) := by
  refine ⟨ok_Ba_add, Nat.le_of_ble_eq_true rfl, ?_⟩
  refine wq_aload_n (kk := 0) (q := 1) rfl rfl rfl ?_
  refine wq_getI (kz := 0) (q := 4) rfl f_Ba_27 rfl rfl (Or.inl ⟨rfl, Nat.le_of_ble_eq_true rfl⟩) rfl rfl ?_
  refine wq_bipush (n := 120) (q := 6) rfl rfl rfl ?_
  refine wq_icmp_ge (tgt := 49) (q := 9) rfl rfl rfl (fun c6 => ?_) (fun c6 => ?_)
  · skip
    first
      | (exfalso; omega)
      | (refine wq_vret rfl rfl (Nat.le_refl _) (Nat.le_refl _) ⟨rfl, rfl, ((((fr.rf.up (by decide)).up (by decide)).up (by decide)).up (by decide)), ?_, fun k hk => ?_, ?_, ?_, ?_⟩
         · simp [hup]
         · simp [hup, hk]
         · simp [hup]
         · simp [hup]
         · simp [hup])
  · skip
    refine wq_aload_n (kk := 0) (q := 10) rfl rfl rfl ?_
    refine wq_getF (q := 13) f_Ba_9 rfl rfl (Nat.le_of_ble_eq_true rfl) rfl rfl rfl ?_
    refine wq_aload_n (kk := 0) (q := 14) rfl rfl rfl ?_
    refine wq_getI (kz := 0) (q := 17) rfl f_Ba_27 rfl rfl (Or.inl ⟨rfl, Nat.le_of_ble_eq_true rfl⟩) rfl rfl ?_
    refine wq_iload_n (kk := 1) (q := 18) rfl rfl rfl ?_
    refine wq_iast (q := 19) rfl (Or.inl ⟨rfl, Nat.le_of_ble_eq_true rfl⟩) rfl rfl (by first | omega | (simp [hup]; omega)) (by first | omega | (simp [hup]; omega)) ?_
    refine wq_aload_n (kk := 0) (q := 20) rfl rfl rfl ?_
    refine wq_getF (q := 23) f_Ba_15 rfl rfl (Nat.le_of_ble_eq_true rfl) rfl rfl rfl ?_
    refine wq_aload_n (kk := 0) (q := 24) rfl rfl rfl ?_
    refine wq_getI (kz := 0) (q := 27) rfl f_Ba_27 rfl rfl (Or.inl ⟨rfl, Nat.le_of_ble_eq_true rfl⟩) rfl rfl ?_
    refine wq_iload_n (kk := 2) (q := 28) rfl rfl rfl ?_
    refine wq_iast (q := 29) rfl (Or.inl ⟨rfl, Nat.le_of_ble_eq_true rfl⟩) rfl rfl (by first | omega | (simp [hup]; omega)) (by first | omega | (simp [hup]; omega)) ?_
    refine wq_aload_n (kk := 0) (q := 30) rfl rfl rfl ?_
    refine wq_getF (q := 33) f_Ba_18 rfl rfl (Nat.le_of_ble_eq_true rfl) rfl rfl rfl ?_
    refine wq_aload_n (kk := 0) (q := 34) rfl rfl rfl ?_
    refine wq_getI (kz := 0) (q := 37) rfl f_Ba_27 rfl rfl (Or.inl ⟨rfl, Nat.le_of_ble_eq_true rfl⟩) rfl rfl ?_
    refine wq_iload_n (kk := 3) (q := 38) rfl rfl rfl ?_
    refine wq_iast (q := 39) rfl (Or.inl ⟨rfl, Nat.le_of_ble_eq_true rfl⟩) rfl rfl (by first | omega | (simp [hup]; omega)) (by first | omega | (simp [hup]; omega)) ?_
    refine wq_aload_n (kk := 0) (q := 40) rfl rfl rfl ?_
    refine wq_dup (q := 41) rfl rfl rfl ?_
    refine wq_getI (kz := 0) (q := 44) rfl f_Ba_27 rfl rfl (Or.inl ⟨rfl, Nat.le_of_ble_eq_true rfl⟩) rfl rfl ?_
    refine wq_iconst (n := 1) (q := 45) rfl rfl rfl ?_
    refine wq_iadd (q := 46) rfl rfl (by first | omega | (simp [hup]; omega)) (by first | omega | (simp [hup]; omega)) ?_
    refine wq_putI (kz := 0) (q := 49) rfl f_Ba_27 rfl rfl rfl (Or.inl ⟨rfl, Nat.le_of_ble_eq_true rfl⟩) rfl rfl ?_
    first
      | (exfalso; omega)
      | (refine wq_vret rfl rfl (Nat.le_refl _) (Nat.le_refl _) ⟨rfl, rfl, ((((fr.rf.up (by decide)).up (by decide)).up (by decide)).up (by decide)), ?_, fun k hk => ?_, ?_, ?_, ?_⟩
         · simp [hup]
         · simp [hup, hk]
         · simp [hup]
         · simp [hup]
         · simp [hup])

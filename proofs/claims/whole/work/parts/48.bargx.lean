theorem SW.wa {N : mN} {b : Int} {pv cu : mF} {d : Int} (h1 : dst N d = b → cu d = ar N d) (h2 : dst N d ≠ b → SW N b pv cu d (cu d) (fun _ => True)) (hp : ∀ f, dp N f → rn N f ≠ 1 → pv f = 1000000) (hc : ∀ f, dp N f → J N d f → rn N f ≠ 1 → cu f = 1000000) : WA N b 1000000 pv cu d := by
  refine ⟨h1, fun hb => ?_⟩
  obtain ⟨a1, a2, a3⟩ := h2 hb
  refine ⟨a1, ?_, fun f hf => a3 f trivial ⟨hf.1, hf.2.2.1, hf.2.2.2⟩⟩
  rcases a2 with z | ⟨f, -, f1, f2⟩
  · exact Or.inl z
  · by_cases hr : rn N f = 1
    · exact Or.inr ⟨f, ⟨f1.1, hr, f1.2.1, f1.2.2⟩, f2⟩
    · have e1 := hp f f1.1 hr
      have e2 := hc f f1.1 f1.2.1 hr
      refine Or.inl ?_
      rw [f2]
      unfold vl
      split <;> assumption
theorem SW.congr {N : mN} {b : Int} {pv pv' cu cu' : mF} {d v : Int} {P : Int → Prop} (h : SW N b pv cu d v P) (he : ∀ f, Cg N d f → pv' f = pv f ∧ cu' f = cu f) : SW N b pv' cu' d v P := by
  have ev : ∀ f, Cg N d f → vl N pv' cu' d f = vl N pv cu d f := fun f hf => by unfold vl; rw [(he f hf).1, (he f hf).2]
  refine ⟨h.1, h.2.1.imp id (fun ⟨f, f0, f1, f2⟩ => ⟨f, f0, f1, by rw [ev f f1]; exact f2⟩), fun f hf hc => by rw [ev f hc]; exact h.2.2 f hf hc⟩
abbrev swp (r : mR) (nw fw : Nat) : mR := rup (rup r 58 4 (some fw)) 58 5 (some nw)
/-- one change more: behind place i of the order it is told -/
def aoI (N : mN) (b : Int) (o pv cu : mF) (i : Int) : Prop := ∀ j, i < j → j < nN N → (rn N (o j) ≠ 1 → cu (o j) = 1000000) ∧ (rn N (o j) = 1 → (dst N (o j) = b → cu (o j) = ar N (o j)) ∧ (dst N (o j) ≠ b → SW N b pv cu (o j) (cu (o j)) (fun _ => True)))
def mvd (o pv cu : mF) (n i m : Int) : Prop := (m = 0 ∧ ∀ j, i < j → j < n → cu (o j) = pv (o j)) ∨ m = 1
abbrev aoQ (nw fw : Nat) (N : mN) (b : Int) (h : mH) (r : mR) : mP := fun rv h1 r1 => r1 = swp r nw fw ∧ fr [fw] h h1 ∧ (∀ d, dp N d → (rn N d ≠ 1 → h1 fw d = 1000000) ∧ (rn N d = 1 → WA N b 1000000 (h1 nw) (h1 fw) d)) ∧ ∃ m, rv = some (vI m) ∧ (m = 0 ∨ m = 1) ∧ (m = 0 → ∀ d, dp N d → h1 fw d = h1 nw d)
theorem netW.sw {h : mH} {r : mR} {N : mN} (hw : netW h r N) (nw fw : Nat) : netW h (swp r nw fw) N := ⟨by rw [rup_o (by omega), rup_o (by omega)]; exact hw.1, hw.2⟩
theorem isB.sw {nw fw : Nat} {r : mR} (hB : isB nw fw r) : isB fw nw (swp r nw fw) := by
  refine ⟨hB.1.elim (fun z => Or.inr ⟨z.2, z.1⟩) (fun z => Or.inl ⟨z.2, z.1⟩), ?_, ?_⟩
  · rw [rup_o (by omega)]; simp [rup]
  · simp [rup]
theorem aoI.step {N : mN} (hV : NV N) {b i : Int} {o pv cu cu' : mF} {v : Int} (hP : Pm o (nN N)) (hO : ∀ i j, 0 ≤ i → i < j → j < nN N → ol N (o i) (o j)) (y : 0 ≤ i) (i1 : i < nN N) (hcu : aoI N b o pv cu i) (hx : ∀ x, x ≠ o i → cu' x = cu x) (hv : cu' (o i) = v) (k1 : rn N (o i) ≠ 1 → v = 1000000) (k2 : rn N (o i) = 1 → (dst N (o i) = b → v = ar N (o i)) ∧ (dst N (o i) ≠ b → SW N b pv cu (o i) v (fun _ => True))) : aoI N b o pv cu' (i - 1) := by
  intro j j0 j1
  have old : ∀ j, i < j → j < nN N → o j ≠ o i := fun j a c => Ne.symm (hP.inj y a c)
  by_cases ej : j = i
  · subst ej
    refine ⟨fun q => by rw [hv]; exact k1 q, fun q => ⟨fun q2 => by rw [hv]; exact (k2 q).1 q2, fun q2 => ?_⟩⟩
    rw [hv]
    refine ((k2 q).2 q2).congr (fun f hf => ⟨rfl, hx f (fun e => ?_)⟩)
    exact J.ne hV (hP.1 j y i1) hf.2.1 e
  · have hne := old j (by omega) j1
    have q := hcu j (by omega) j1
    rw [hx _ hne]
    refine ⟨q.1, fun w => ⟨(q.2 w).1, fun w2 => ((q.2 w).2 w2).congr (fun f hf => ⟨rfl, hx f (fun e => ?_)⟩)⟩⟩
    obtain ⟨k, k0, k1', rfl⟩ := ord_lt hV hP hO (show 0 ≤ j by omega) j1 hf.1 hf.2.1
    exact old k (by omega) k1' e
set_option maxRecDepth 100000 in
set_option maxHeartbeats 8000000 in
theorem Ba_aoA (nw fw : Nat) (N : mN) (b : Int) (h : mH) (r : mR) (hB : isB nw fw r) (hw : netW h r N) (hp : ∀ f, dp N f → rn N f ≠ 1 → h nw f = 1000000) : ∀ (M : Nat) (i m : Int) (h' : mH) (z : Option mV), (i + 1).toNat = M → -1 ≤ i → i < nN N → fr [fw] h h' → aoI N b (h 35) (h nw) (h' fw) i → mvd (h 35) (h nw) (h' fw) (nN N) i m → WP (true, rm 4) m_Ba_allowOneMore (rt m_Ba_allowOneMore (rm 4) (aoQ nw fw N b h r)) 29 [some (vR 58), some (vR 31), some (vI b), some (vR nw), some (vI m), some (vI i), z] [] h' (swp r nw fw) (0, 0) := by
  have hB' := hB.sw
  have hw1 := hw.sw nw fw
  have hids := hB.1
  obtain ⟨-, hnow, hfew⟩ := id hB'
  rcases hids with ⟨rfl, rfl⟩ | ⟨rfl, rfl⟩
  all_goals
    intro M
    induction M using Nat.strongRecOn with
    | ind M ih =>
      intro i m h' z hM i0 i1 hf hA hm
      obtain ⟨hnde, hV, hN, hO, hG⟩ := id hw1
      have hn := hV.1
      have hw' := hw1.fr hf (by decide)
      have e35 : h' 35 i = h 35 i := hf.at 35 i (by decide)
      have ho := fun y : 0 ≤ i => hO.1.1 i y i1
      have er := fun y : 0 ≤ i => (hw'.2.2.1.2.2.1 _ (ho y)).2.2.2.2.2
      have hr01 := fun y : 0 ≤ i => (hV.2.2.1 _ (ho y)).2.2.2.2
      refine wq_iload (i := 5) (q := 31) rfl rfl rfl ?_
      refine wq_if_lt (tgt := 108) (q := 34) rfl rfl rfl (fun c31 => ?_) (fun c31 => ?_)
      · skip
        refine wq_iload (i := 4) (q := 110) rfl rfl rfl ?_
        have ei : i = -1 := by omega
        subst ei
        refine wq_zret rfl rfl (Nat.le_refl _) (Nat.le_refl _) (by rcases hm with ⟨q, -⟩ | q <;> omega) ⟨rfl, hf, fun d hd => ?_, m, rfl, by rcases hm with ⟨q, -⟩ | q <;> omega, fun m0 d hd => ?_⟩
        · obtain ⟨j, j0, j1, rfl⟩ := hO.1.sur hd.1 hd.2
          have q := hA j (by omega) j1
          refine ⟨q.1, fun w => SW.wa (q.2 w).1 (fun w2 => ((q.2 w).2 w2).congr (fun f hf' => ⟨hf.at _ f (by decide), rfl⟩)) (fun f h1 h2 => by rw [hf.at _ f (by decide)]; exact hp f h1 h2) (fun f h1 hJ h2 => ?_)⟩
          obtain ⟨k, k0, k1, rfl⟩ := hO.1.sur h1.1 h1.2
          exact (hA k (by omega) k1).1 h2
        · obtain ⟨j, j0, j1, rfl⟩ := hO.1.sur hd.1 hd.2
          rcases hm with ⟨-, q⟩ | q
          · exact (q j (by omega) j1).trans (hf.at _ _ (by decide)).symm
          · omega
      · skip
        refine wq_aload_n (kk := 1) (q := 35) rfl rfl rfl ?_
        refine wq_getF (q := 38) f_Ba_51 rfl rfl (Nat.le_of_ble_eq_true rfl) rfl rfl rfl ?_
        refine wq_iload (i := 5) (q := 40) rfl rfl rfl ?_
        refine wq_iald (q := 41) rfl (Or.inl ⟨rfl, Nat.le_of_ble_eq_true rfl⟩) rfl rfl (by first | omega | (have y := ho (by omega); have y1 := y.1; have y2 := y.2; omega)) (by first | omega | (have y := ho (by omega); have y1 := y.1; have y2 := y.2; omega)) ?_
        rw [e35]
        refine wq_istore (i := 6) (q := 43) rfl rfl (Nat.le_of_ble_eq_true rfl) rfl ?_
        refine wq_aload_n (kk := 0) (q := 44) rfl rfl rfl ?_
        refine wq_getR (q := 47) f_Ba_21 rfl rfl (Or.inl ⟨rfl, Nat.le_of_ble_eq_true rfl⟩) hnow rfl rfl ?_
        refine wq_iload (i := 6) (q := 49) rfl rfl rfl ?_
        refine wq_aload_n (kk := 1) (q := 50) rfl rfl rfl ?_
        refine wq_getF (q := 53) f_Ba_54 rfl rfl (Nat.le_of_ble_eq_true rfl) rfl rfl rfl ?_
        refine wq_iload (i := 6) (q := 55) rfl rfl rfl ?_
        refine wq_zald (q := 56) rfl (Or.inl ⟨rfl, Nat.le_of_ble_eq_true rfl⟩) rfl rfl (by first | omega | (have y := ho (by omega); have y1 := y.1; have y2 := y.2; omega)) (by first | omega | (have y := ho (by omega); have y1 := y.1; have y2 := y.2; omega)) ?_
        rw [er (by omega)]
        refine wq_if_eq (tgt := 70) (q := 59) rfl rfl rfl (fun c56 => ?_) (fun c56 => ?_)
        · skip
          refine wq_ldc (n := 1000000) (q := 72) k_Ba_38 rfl rfl rfl ?_
          refine wq_iast (q := 73) rfl (Or.inl ⟨rfl, Nat.le_of_ble_eq_true rfl⟩) rfl rfl (by first | omega | (have y := ho (by omega); have y1 := y.1; have y2 := y.2; omega)) (by first | omega | (have y := ho (by omega); have y1 := y.1; have y2 := y.2; omega)) ?_
          refine wq_iload (i := 4) (q := 75) rfl rfl rfl ?_
          refine wq_if_ne (tgt := 95) (q := 78) rfl rfl rfl (fun c75 => ?_) (fun c75 => ?_)
          · skip
            refine wq_iconst (n := 1) (q := 96) rfl rfl rfl ?_
            refine wq_goto (tgt := 100) rfl rfl ?_
            refine wq_istore (i := 4) (q := 102) rfl rfl (Nat.le_of_ble_eq_true rfl) rfl ?_
            refine wq_iinc (i := 5) (n := -1) (q := 105) rfl rfl rfl (Nat.le_of_ble_eq_true rfl) rfl (by first | omega | (have y := ho (by omega); have y1 := y.1; have y2 := y.2; omega)) (by first | omega | (have y := ho (by omega); have y1 := y.1; have y2 := y.2; omega)) ?_
            refine wq_goto (tgt := 29) rfl rfl ?_
            have y : 0 ≤ i := by omega
            have q01 := hr01 y
            first
              | (refine ih _ ?_ (i + -1) _ _ _ rfl (by omega) (by omega) (hf.up (by decide)) (hA.step hV hO.1 hO.2 y i1 (v := v) (fun x hx => by rw [hup_j hx]) hup_s (fun q => by omega) (fun _ => ⟨v1, fun q => (v2 q).congr (fun f hf' => ⟨(hf.at _ f (by decide)).symm, rfl⟩)⟩)) ?_
                 · omega
                 · first
                     | exact Or.inr rfl
                     | exact Or.inr (by rcases hm with ⟨q, -⟩ | q; exact absurd q c75; exact q)
                     | (refine Or.inl ⟨rfl, fun j j0 j1 => ?_⟩
                        rcases hm with ⟨-, q⟩ | q
                        · by_cases ej : j = i
                          · subst ej
                            have c := c92
                            rw [hup_s, hup_i (by decide)] at c
                            rw [hup_s, c]
                            exact hf.at _ _ (by decide)
                          · rw [hup_j (Ne.symm (hO.1.inj y (show i < j by omega) j1))]
                            exact q j (by omega) j1
                        · exfalso; omega))
              | (refine ih _ ?_ (i + -1) _ _ _ rfl (by omega) (by omega) (hf.up (by decide)) (hA.step hV hO.1 hO.2 y i1 (v := 1000000) (fun x hx => by rw [hup_j hx]) hup_s (fun _ => rfl) (fun q => by omega)) ?_
                 · omega
                 · first
                     | exact Or.inr rfl
                     | exact Or.inr (by rcases hm with ⟨q, -⟩ | q; exact absurd q c75; exact q)
                     | (refine Or.inl ⟨rfl, fun j j0 j1 => ?_⟩
                        rcases hm with ⟨-, q⟩ | q
                        · by_cases ej : j = i
                          · subst ej
                            have c := c92
                            rw [hup_s, hup_i (by decide)] at c
                            rw [hup_s, c]
                            exact hf.at _ _ (by decide)
                          · rw [hup_j (Ne.symm (hO.1.inj y (show i < j by omega) j1))]
                            exact q j (by omega) j1
                        · exfalso; omega))
          · skip
            refine wq_aload_n (kk := 0) (q := 79) rfl rfl rfl ?_
            refine wq_getR (q := 82) f_Ba_21 rfl rfl (Or.inl ⟨rfl, Nat.le_of_ble_eq_true rfl⟩) hnow rfl rfl ?_
            refine wq_iload (i := 6) (q := 84) rfl rfl rfl ?_
            refine wq_iald (q := 85) rfl (Or.inl ⟨rfl, Nat.le_of_ble_eq_true rfl⟩) rfl rfl (by first | omega | (have y := ho (by omega); have y1 := y.1; have y2 := y.2; omega)) (by first | omega | (have y := ho (by omega); have y1 := y.1; have y2 := y.2; omega)) ?_
            refine wq_aload_n (kk := 0) (q := 86) rfl rfl rfl ?_
            refine wq_getR (q := 89) f_Ba_24 rfl rfl (Or.inl ⟨rfl, Nat.le_of_ble_eq_true rfl⟩) hfew rfl rfl ?_
            refine wq_iload (i := 6) (q := 91) rfl rfl rfl ?_
            refine wq_iald (q := 92) rfl (Or.inl ⟨rfl, Nat.le_of_ble_eq_true rfl⟩) rfl rfl (by first | omega | (have y := ho (by omega); have y1 := y.1; have y2 := y.2; omega)) (by first | omega | (have y := ho (by omega); have y1 := y.1; have y2 := y.2; omega)) ?_
            refine wq_icmp_eq (tgt := 99) (q := 95) rfl rfl rfl (fun c92 => ?_) (fun c92 => ?_)
            · skip
              refine wq_iconst (n := 0) (q := 100) rfl rfl rfl ?_
              refine wq_istore (i := 4) (q := 102) rfl rfl (Nat.le_of_ble_eq_true rfl) rfl ?_
              refine wq_iinc (i := 5) (n := -1) (q := 105) rfl rfl rfl (Nat.le_of_ble_eq_true rfl) rfl (by first | omega | (have y := ho (by omega); have y1 := y.1; have y2 := y.2; omega)) (by first | omega | (have y := ho (by omega); have y1 := y.1; have y2 := y.2; omega)) ?_
              refine wq_goto (tgt := 29) rfl rfl ?_
              have y : 0 ≤ i := by omega
              have q01 := hr01 y
              first
                | (refine ih _ ?_ (i + -1) _ _ _ rfl (by omega) (by omega) (hf.up (by decide)) (hA.step hV hO.1 hO.2 y i1 (v := v) (fun x hx => by rw [hup_j hx]) hup_s (fun q => by omega) (fun _ => ⟨v1, fun q => (v2 q).congr (fun f hf' => ⟨(hf.at _ f (by decide)).symm, rfl⟩)⟩)) ?_
                   · omega
                   · first
                       | exact Or.inr rfl
                       | exact Or.inr (by rcases hm with ⟨q, -⟩ | q; exact absurd q c75; exact q)
                       | (refine Or.inl ⟨rfl, fun j j0 j1 => ?_⟩
                          rcases hm with ⟨-, q⟩ | q
                          · by_cases ej : j = i
                            · subst ej
                              have c := c92
                              rw [hup_s, hup_i (by decide)] at c
                              rw [hup_s, c]
                              exact hf.at _ _ (by decide)
                            · rw [hup_j (Ne.symm (hO.1.inj y (show i < j by omega) j1))]
                              exact q j (by omega) j1
                          · exfalso; omega))
                | (refine ih _ ?_ (i + -1) _ _ _ rfl (by omega) (by omega) (hf.up (by decide)) (hA.step hV hO.1 hO.2 y i1 (v := 1000000) (fun x hx => by rw [hup_j hx]) hup_s (fun _ => rfl) (fun q => by omega)) ?_
                   · omega
                   · first
                       | exact Or.inr rfl
                       | exact Or.inr (by rcases hm with ⟨q, -⟩ | q; exact absurd q c75; exact q)
                       | (refine Or.inl ⟨rfl, fun j j0 j1 => ?_⟩
                          rcases hm with ⟨-, q⟩ | q
                          · by_cases ej : j = i
                            · subst ej
                              have c := c92
                              rw [hup_s, hup_i (by decide)] at c
                              rw [hup_s, c]
                              exact hf.at _ _ (by decide)
                            · rw [hup_j (Ne.symm (hO.1.inj y (show i < j by omega) j1))]
                              exact q j (by omega) j1
                          · exfalso; omega))
            · skip
              refine wq_iconst (n := 1) (q := 96) rfl rfl rfl ?_
              refine wq_goto (tgt := 100) rfl rfl ?_
              refine wq_istore (i := 4) (q := 102) rfl rfl (Nat.le_of_ble_eq_true rfl) rfl ?_
              refine wq_iinc (i := 5) (n := -1) (q := 105) rfl rfl rfl (Nat.le_of_ble_eq_true rfl) rfl (by first | omega | (have y := ho (by omega); have y1 := y.1; have y2 := y.2; omega)) (by first | omega | (have y := ho (by omega); have y1 := y.1; have y2 := y.2; omega)) ?_
              refine wq_goto (tgt := 29) rfl rfl ?_
              have y : 0 ≤ i := by omega
              have q01 := hr01 y
              first
                | (refine ih _ ?_ (i + -1) _ _ _ rfl (by omega) (by omega) (hf.up (by decide)) (hA.step hV hO.1 hO.2 y i1 (v := v) (fun x hx => by rw [hup_j hx]) hup_s (fun q => by omega) (fun _ => ⟨v1, fun q => (v2 q).congr (fun f hf' => ⟨(hf.at _ f (by decide)).symm, rfl⟩)⟩)) ?_
                   · omega
                   · first
                       | exact Or.inr rfl
                       | exact Or.inr (by rcases hm with ⟨q, -⟩ | q; exact absurd q c75; exact q)
                       | (refine Or.inl ⟨rfl, fun j j0 j1 => ?_⟩
                          rcases hm with ⟨-, q⟩ | q
                          · by_cases ej : j = i
                            · subst ej
                              have c := c92
                              rw [hup_s, hup_i (by decide)] at c
                              rw [hup_s, c]
                              exact hf.at _ _ (by decide)
                            · rw [hup_j (Ne.symm (hO.1.inj y (show i < j by omega) j1))]
                              exact q j (by omega) j1
                          · exfalso; omega))
                | (refine ih _ ?_ (i + -1) _ _ _ rfl (by omega) (by omega) (hf.up (by decide)) (hA.step hV hO.1 hO.2 y i1 (v := 1000000) (fun x hx => by rw [hup_j hx]) hup_s (fun _ => rfl) (fun q => by omega)) ?_
                   · omega
                   · first
                       | exact Or.inr rfl
                       | exact Or.inr (by rcases hm with ⟨q, -⟩ | q; exact absurd q c75; exact q)
                       | (refine Or.inl ⟨rfl, fun j j0 j1 => ?_⟩
                          rcases hm with ⟨-, q⟩ | q
                          · by_cases ej : j = i
                            · subst ej
                              have c := c92
                              rw [hup_s, hup_i (by decide)] at c
                              rw [hup_s, c]
                              exact hf.at _ _ (by decide)
                            · rw [hup_j (Ne.symm (hO.1.inj y (show i < j by omega) j1))]
                              exact q j (by omega) j1
                          · exfalso; omega))
        · skip
          refine wq_aload_n (kk := 0) (q := 60) rfl rfl rfl ?_
          refine wq_aload_n (kk := 1) (q := 61) rfl rfl rfl ?_
          refine wq_iload (i := 6) (q := 63) rfl rfl rfl ?_
          refine wq_iload_n (kk := 2) (q := 64) rfl rfl rfl ?_
          refine wq_callV (q := 67) (m' := m_Ba_soonestWith) (R' := rm 3) (As := [_, _, _]) rfl rfl l_Ba_58 vm_Ba_soonestWith rfl rfl rfl (Or.inl ⟨rfl, Nat.le_of_ble_eq_true rfl⟩) (Nat.le_of_ble_eq_true rfl) (Nat.le_of_ble_eq_true rfl) (Nat.le_refl _) (Nat.le_refl _) (Nat.le_of_ble_eq_true rfl) (Ba_soonestWith_ok _ _ N (h 35 i) b h' _ hB' hw' (ho (by omega))) rfl ?_
          rintro rv h' r' ⟨v, rfl, rfl, rfl, v1, v2⟩ -
          refine wq_goto (tgt := 72) rfl rfl ?_
          refine wq_iast (q := 73) rfl (Or.inl ⟨rfl, Nat.le_of_ble_eq_true rfl⟩) rfl rfl (by first | omega | (have y := ho (by omega); have y1 := y.1; have y2 := y.2; omega)) (by first | omega | (have y := ho (by omega); have y1 := y.1; have y2 := y.2; omega)) ?_
          refine wq_iload (i := 4) (q := 75) rfl rfl rfl ?_
          refine wq_if_ne (tgt := 95) (q := 78) rfl rfl rfl (fun c75 => ?_) (fun c75 => ?_)
          · skip
            refine wq_iconst (n := 1) (q := 96) rfl rfl rfl ?_
            refine wq_goto (tgt := 100) rfl rfl ?_
            refine wq_istore (i := 4) (q := 102) rfl rfl (Nat.le_of_ble_eq_true rfl) rfl ?_
            refine wq_iinc (i := 5) (n := -1) (q := 105) rfl rfl rfl (Nat.le_of_ble_eq_true rfl) rfl (by first | omega | (have y := ho (by omega); have y1 := y.1; have y2 := y.2; omega)) (by first | omega | (have y := ho (by omega); have y1 := y.1; have y2 := y.2; omega)) ?_
            refine wq_goto (tgt := 29) rfl rfl ?_
            have y : 0 ≤ i := by omega
            have q01 := hr01 y
            first
              | (refine ih _ ?_ (i + -1) _ _ _ rfl (by omega) (by omega) (hf.up (by decide)) (hA.step hV hO.1 hO.2 y i1 (v := v) (fun x hx => by rw [hup_j hx]) hup_s (fun q => by omega) (fun _ => ⟨v1, fun q => (v2 q).congr (fun f hf' => ⟨(hf.at _ f (by decide)).symm, rfl⟩)⟩)) ?_
                 · omega
                 · first
                     | exact Or.inr rfl
                     | exact Or.inr (by rcases hm with ⟨q, -⟩ | q; exact absurd q c75; exact q)
                     | (refine Or.inl ⟨rfl, fun j j0 j1 => ?_⟩
                        rcases hm with ⟨-, q⟩ | q
                        · by_cases ej : j = i
                          · subst ej
                            have c := c92
                            rw [hup_s, hup_i (by decide)] at c
                            rw [hup_s, c]
                            exact hf.at _ _ (by decide)
                          · rw [hup_j (Ne.symm (hO.1.inj y (show i < j by omega) j1))]
                            exact q j (by omega) j1
                        · exfalso; omega))
              | (refine ih _ ?_ (i + -1) _ _ _ rfl (by omega) (by omega) (hf.up (by decide)) (hA.step hV hO.1 hO.2 y i1 (v := 1000000) (fun x hx => by rw [hup_j hx]) hup_s (fun _ => rfl) (fun q => by omega)) ?_
                 · omega
                 · first
                     | exact Or.inr rfl
                     | exact Or.inr (by rcases hm with ⟨q, -⟩ | q; exact absurd q c75; exact q)
                     | (refine Or.inl ⟨rfl, fun j j0 j1 => ?_⟩
                        rcases hm with ⟨-, q⟩ | q
                        · by_cases ej : j = i
                          · subst ej
                            have c := c92
                            rw [hup_s, hup_i (by decide)] at c
                            rw [hup_s, c]
                            exact hf.at _ _ (by decide)
                          · rw [hup_j (Ne.symm (hO.1.inj y (show i < j by omega) j1))]
                            exact q j (by omega) j1
                        · exfalso; omega))
          · skip
            refine wq_aload_n (kk := 0) (q := 79) rfl rfl rfl ?_
            refine wq_getR (q := 82) f_Ba_21 rfl rfl (Or.inl ⟨rfl, Nat.le_of_ble_eq_true rfl⟩) hnow rfl rfl ?_
            refine wq_iload (i := 6) (q := 84) rfl rfl rfl ?_
            refine wq_iald (q := 85) rfl (Or.inl ⟨rfl, Nat.le_of_ble_eq_true rfl⟩) rfl rfl (by first | omega | (have y := ho (by omega); have y1 := y.1; have y2 := y.2; omega)) (by first | omega | (have y := ho (by omega); have y1 := y.1; have y2 := y.2; omega)) ?_
            refine wq_aload_n (kk := 0) (q := 86) rfl rfl rfl ?_
            refine wq_getR (q := 89) f_Ba_24 rfl rfl (Or.inl ⟨rfl, Nat.le_of_ble_eq_true rfl⟩) hfew rfl rfl ?_
            refine wq_iload (i := 6) (q := 91) rfl rfl rfl ?_
            refine wq_iald (q := 92) rfl (Or.inl ⟨rfl, Nat.le_of_ble_eq_true rfl⟩) rfl rfl (by first | omega | (have y := ho (by omega); have y1 := y.1; have y2 := y.2; omega)) (by first | omega | (have y := ho (by omega); have y1 := y.1; have y2 := y.2; omega)) ?_
            refine wq_icmp_eq (tgt := 99) (q := 95) rfl rfl rfl (fun c92 => ?_) (fun c92 => ?_)
            · skip
              refine wq_iconst (n := 0) (q := 100) rfl rfl rfl ?_
              refine wq_istore (i := 4) (q := 102) rfl rfl (Nat.le_of_ble_eq_true rfl) rfl ?_
              refine wq_iinc (i := 5) (n := -1) (q := 105) rfl rfl rfl (Nat.le_of_ble_eq_true rfl) rfl (by first | omega | (have y := ho (by omega); have y1 := y.1; have y2 := y.2; omega)) (by first | omega | (have y := ho (by omega); have y1 := y.1; have y2 := y.2; omega)) ?_
              refine wq_goto (tgt := 29) rfl rfl ?_
              have y : 0 ≤ i := by omega
              have q01 := hr01 y
              first
                | (refine ih _ ?_ (i + -1) _ _ _ rfl (by omega) (by omega) (hf.up (by decide)) (hA.step hV hO.1 hO.2 y i1 (v := v) (fun x hx => by rw [hup_j hx]) hup_s (fun q => by omega) (fun _ => ⟨v1, fun q => (v2 q).congr (fun f hf' => ⟨(hf.at _ f (by decide)).symm, rfl⟩)⟩)) ?_
                   · omega
                   · first
                       | exact Or.inr rfl
                       | exact Or.inr (by rcases hm with ⟨q, -⟩ | q; exact absurd q c75; exact q)
                       | (refine Or.inl ⟨rfl, fun j j0 j1 => ?_⟩
                          rcases hm with ⟨-, q⟩ | q
                          · by_cases ej : j = i
                            · subst ej
                              have c := c92
                              rw [hup_s, hup_i (by decide)] at c
                              rw [hup_s, c]
                              exact hf.at _ _ (by decide)
                            · rw [hup_j (Ne.symm (hO.1.inj y (show i < j by omega) j1))]
                              exact q j (by omega) j1
                          · exfalso; omega))
                | (refine ih _ ?_ (i + -1) _ _ _ rfl (by omega) (by omega) (hf.up (by decide)) (hA.step hV hO.1 hO.2 y i1 (v := 1000000) (fun x hx => by rw [hup_j hx]) hup_s (fun _ => rfl) (fun q => by omega)) ?_
                   · omega
                   · first
                       | exact Or.inr rfl
                       | exact Or.inr (by rcases hm with ⟨q, -⟩ | q; exact absurd q c75; exact q)
                       | (refine Or.inl ⟨rfl, fun j j0 j1 => ?_⟩
                          rcases hm with ⟨-, q⟩ | q
                          · by_cases ej : j = i
                            · subst ej
                              have c := c92
                              rw [hup_s, hup_i (by decide)] at c
                              rw [hup_s, c]
                              exact hf.at _ _ (by decide)
                            · rw [hup_j (Ne.symm (hO.1.inj y (show i < j by omega) j1))]
                              exact q j (by omega) j1
                          · exfalso; omega))
            · skip
              refine wq_iconst (n := 1) (q := 96) rfl rfl rfl ?_
              refine wq_goto (tgt := 100) rfl rfl ?_
              refine wq_istore (i := 4) (q := 102) rfl rfl (Nat.le_of_ble_eq_true rfl) rfl ?_
              refine wq_iinc (i := 5) (n := -1) (q := 105) rfl rfl rfl (Nat.le_of_ble_eq_true rfl) rfl (by first | omega | (have y := ho (by omega); have y1 := y.1; have y2 := y.2; omega)) (by first | omega | (have y := ho (by omega); have y1 := y.1; have y2 := y.2; omega)) ?_
              refine wq_goto (tgt := 29) rfl rfl ?_
              have y : 0 ≤ i := by omega
              have q01 := hr01 y
              first
                | (refine ih _ ?_ (i + -1) _ _ _ rfl (by omega) (by omega) (hf.up (by decide)) (hA.step hV hO.1 hO.2 y i1 (v := v) (fun x hx => by rw [hup_j hx]) hup_s (fun q => by omega) (fun _ => ⟨v1, fun q => (v2 q).congr (fun f hf' => ⟨(hf.at _ f (by decide)).symm, rfl⟩)⟩)) ?_
                   · omega
                   · first
                       | exact Or.inr rfl
                       | exact Or.inr (by rcases hm with ⟨q, -⟩ | q; exact absurd q c75; exact q)
                       | (refine Or.inl ⟨rfl, fun j j0 j1 => ?_⟩
                          rcases hm with ⟨-, q⟩ | q
                          · by_cases ej : j = i
                            · subst ej
                              have c := c92
                              rw [hup_s, hup_i (by decide)] at c
                              rw [hup_s, c]
                              exact hf.at _ _ (by decide)
                            · rw [hup_j (Ne.symm (hO.1.inj y (show i < j by omega) j1))]
                              exact q j (by omega) j1
                          · exfalso; omega))
                | (refine ih _ ?_ (i + -1) _ _ _ rfl (by omega) (by omega) (hf.up (by decide)) (hA.step hV hO.1 hO.2 y i1 (v := 1000000) (fun x hx => by rw [hup_j hx]) hup_s (fun _ => rfl) (fun q => by omega)) ?_
                   · omega
                   · first
                       | exact Or.inr rfl
                       | exact Or.inr (by rcases hm with ⟨q, -⟩ | q; exact absurd q c75; exact q)
                       | (refine Or.inl ⟨rfl, fun j j0 j1 => ?_⟩
                          rcases hm with ⟨-, q⟩ | q
                          · by_cases ej : j = i
                            · subst ej
                              have c := c92
                              rw [hup_s, hup_i (by decide)] at c
                              rw [hup_s, c]
                              exact hf.at _ _ (by decide)
                            · rw [hup_j (Ne.symm (hO.1.inj y (show i < j by omega) j1))]
                              exact q j (by omega) j1
                          · exfalso; omega))

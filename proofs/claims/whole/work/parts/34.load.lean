abbrev rN (r : mR) : mR := rup r 31 7 (some 2)
theorem rN_d (r : mR) : (rN r).1 31 7 = some 2 := by simp [rup]
theorem rup_o {r : mR} {i k : Nat} {v : Option Nat} {a b : Nat} (h : ¬ (a = i ∧ b = k)) : (rup r i k v).1 a b = r.1 a b := by show (if a = i ∧ b = k then v else r.1 a b) = _; rw [if_neg h]
/-- the desk in force as a net; b is 1 if all run without delays -/
def isD (h : mH) (b : Int) (N : mN) : Prop := h 2 4 = nN N ∧ h 2 1 = nS N ∧ (∀ d, dp N d → lv N d = h 8 d + (if b = 0 then h 10 d else 0) ∧ ar N d = lv N d + h 9 d ∧ h 6 d = frm N d ∧ h 7 d = dst N d ∧ h 5 d = ln N d ∧ rn N d = (if b = 0 then 1 - h 12 d else 1)) ∧ ∀ s, 0 ≤ s → s < nS N → h 3 s = gp N s ∧ h 4 s = pt N s
/-- what the desk's numbers may be -/
def DV (h : mH) : Prop := (0 ≤ h 2 4 ∧ h 2 4 ≤ 120) ∧ (0 ≤ h 2 1 ∧ h 2 1 ≤ 10) ∧ (∀ d, 0 ≤ d → d < h 2 4 → (0 ≤ h 8 d ∧ h 8 d ≤ 999) ∧ (0 ≤ h 10 d ∧ h 10 d ≤ 99) ∧ (1 ≤ h 9 d ∧ h 9 d ≤ 99) ∧ (h 12 d = 0 ∨ h 12 d = 1) ∧ (0 ≤ h 6 d ∧ h 6 d < h 2 1) ∧ (0 ≤ h 7 d ∧ h 7 d < h 2 1) ∧ h 6 d ≠ h 7 d ∧ 0 ≤ h 5 d ∧ h 5 d < h 2 2) ∧ (∀ s, 0 ≤ s → s < h 2 1 → (0 ≤ h 3 s ∧ h 3 s ≤ 99) ∧ (h 4 s = -2 ∨ 0 ≤ h 4 s ∧ h 4 s ≤ 999)) ∧ (0 ≤ h 2 2 ∧ h 2 2 ≤ 8) ∧ (0 ≤ h 2 3 ∧ h 2 3 ≤ 12) ∧ (0 ≤ h 2 0 ∧ h 2 0 ≤ 999)
abbrev nC : List Nat := [31, 32, 33, 34, 35, 36, 37, 38, 39]
def loaded (h h1 : mH) (N : mN) : Prop := fr nC h h1 ∧ isN h1 N ∧ isO h1 N ∧ isG h1 N
abbrev ldQ (h : mH) (r : mR) (N : mN) : mP := fun rv h1 r1 => rv = none ∧ r1 = rN r ∧ loaded h h1 N
/-- the order by departures' times is that by the rows -/
theorem soS.isO {h h1 : mH} {N : mN} (hV : NV N) (hN : isN h N) (hs : soS h h1 (nN N) (nN N)) : isN h1 N ∧ isO h1 N := by
  obtain ⟨f, p, o⟩ := hs
  refine ⟨?_, p, fun i j i0 ij jn => ?_⟩
  · obtain ⟨a, b, c, d⟩ := hN
    refine ⟨by rw [f.at 31 0 (by decide)]; exact a, by rw [f.at 2 1 (by decide)]; exact b, fun x hx => ?_, fun s s0 s1 => ?_⟩
    · rw [f.at 32 x (by decide), f.at 33 x (by decide), f.at 6 x (by decide), f.at 7 x (by decide), f.at 5 x (by decide), f.at 34 x (by decide)]
      exact c x hx
    · rw [f.at 38 s (by decide), f.at 39 s (by decide)]
      exact d s s0 s1
  · have := o i j i0 ij jn
    unfold ow at this
    rw [(hN.2.2.1 _ (p.1 i i0 (by omega))).1, (hN.2.2.1 _ (p.1 j (by omega) jn)).1] at this
    exact this
theorem isN.fr {S : List Nat} {h h1 : mH} {N : mN} (hN : isN h N) (f : fr S h h1) (hS : ∀ i ∈ [31, 2, 32, 33, 6, 7, 5, 34, 38, 39], i ∉ S) : isN h1 N := by
  obtain ⟨a, b, c, d⟩ := hN
  refine ⟨by rw [f.at 31 0 (hS _ (by decide))]; exact a, by rw [f.at 2 1 (hS _ (by decide))]; exact b, fun x hx => ?_, fun s s0 s1 => ?_⟩
  · rw [f.at 32 x (hS _ (by decide)), f.at 33 x (hS _ (by decide)), f.at 6 x (hS _ (by decide)), f.at 7 x (hS _ (by decide)), f.at 5 x (hS _ (by decide)), f.at 34 x (hS _ (by decide))]
    exact c x hx
  · rw [f.at 38 s (hS _ (by decide)), f.at 39 s (hS _ (by decide))]
    exact d s s0 s1
theorem isO.fr {S : List Nat} {h h1 : mH} {N : mN} (hO : isO h N) (f : fr S h h1) (hS : 35 ∉ S) : isO h1 N := by
  unfold isO at *
  rw [f 35 hS]
  exact hO
theorem isG.fr {S : List Nat} {h h1 : mH} {N : mN} (hO : isG h N) (f : fr S h h1) (h1' : 36 ∉ S) (h2 : 37 ∉ S) : isG h1 N := by
  unfold isG at *
  rw [f 36 h1', f 37 h2]
  exact hO
set_option maxRecDepth 100000 in
set_option maxHeartbeats 1000000 in
theorem Ne_takeE (N : mN) (b : Int) (h : mH) (r : mR) (h' : mH) (a : Option mV) (hV : NV N) (hf : fr nC h h') (hN : isN h' N) (hP : Pm (h' 35) (nN N)) : WP (true, rm 3) m_Ne_take (rt m_Ne_take (rm 3) (ldQ h r N)) 163 [some (vR 31), some (vR 2), some (vI b), a] [] h' (rN r) (0, 0) := by
  have hnde := rN_d r
  refine wq_aload_n (kk := 0) (q := 164) rfl rfl rfl ?_
  refine wq_callV (q := 167) (m' := m_Ne_sort) (R' := rm 2) (As := []) rfl rfl l_Ne_73 vm_Ne_sort rfl rfl rfl (Or.inl ⟨rfl, Nat.le_of_ble_eq_true rfl⟩) (Nat.le_of_ble_eq_true rfl) (Nat.le_of_ble_eq_true rfl) (Nat.le_refl _) (Nat.le_refl _) (Nat.le_of_ble_eq_true rfl) (Ne_sort_ok h' (rN r) (nN N) hV.1 hN.1 hP) rfl ?_
  rintro rv h2 r2 ⟨rfl, rfl, hs⟩ -
  obtain ⟨hN2, hO2⟩ := hs.isO hV hN
  refine wq_aload_n (kk := 0) (q := 168) rfl rfl rfl ?_
  refine wq_callV (q := 171) (m' := m_Ne_group) (R' := rm 1) (As := []) rfl rfl l_Ne_76 vm_Ne_group rfl rfl rfl (Or.inl ⟨rfl, Nat.le_of_ble_eq_true rfl⟩) (Nat.le_of_ble_eq_true rfl) (Nat.le_of_ble_eq_true rfl) (Nat.le_refl _) (Nat.le_refl _) (Nat.le_of_ble_eq_true rfl) (Ne_group_ok h2 (rN r) (nN N) (nS N) hnde hV.1 hN2.1 hV.2.1 hN2.2.1 (fun d d0 d1 => by rw [(hN2.2.2.1 d ⟨d0, d1⟩).2.2.1]; exact (hV.2.2.1 d ⟨d0, d1⟩).1) hO2.1) rfl ?_
  rintro rv h3 r3 ⟨rfl, rfl, hg⟩ -
  have f3 := hg.1
  exact wq_vret rfl rfl (Nat.le_refl _) (Nat.le_refl _) ⟨rfl, rfl, (hf.trans hs.1 (by decide)).trans f3 (by decide), hN2.fr f3 (by decide), hO2.fr f3 (by decide), hg.isG hV hN2 hO2⟩
set_option maxRecDepth 100000 in
set_option maxHeartbeats 2000000 in
theorem Ne_takeD (N : mN) (b : Int) (hb : b = 0 ∨ b = 1) (h : mH) (r : mR) (hV : NV N) (hD : isD h b N) (hDV : DV h) : ∀ (M : Nat) (d : Int) (h' : mH), (nN N - d).toNat = M → 0 ≤ d → d ≤ nN N → fr nC h h' → h' 31 0 = nN N → Pm (h' 35) (nN N) → (∀ s, 0 ≤ s → s < nS N → h' 38 s = gp N s ∧ h' 39 s = pt N s) → (∀ x, 0 ≤ x → x < d → h' 32 x = lv N x ∧ h' 33 x = ar N x ∧ h' 34 x = rn N x) → WP (true, rm 3) m_Ne_take (rt m_Ne_take (rm 3) (ldQ h r N)) 67 [some (vR 31), some (vR 2), some (vI b), some (vI d)] [] h' (rN r) (0, 0) := by
  intro M
  induction M using Nat.strongRecOn with
  | ind M ih =>
    intro d h' hM d0 d1 hf hc hP hg hx
    have hnde := rN_d r
    have hn := hV.1
    have e8 : h' 8 d = h 8 d := hf.at 8 d (by decide)
    have e9 : h' 9 d = h 9 d := hf.at 9 d (by decide)
    have e10 : h' 10 d = h 10 d := hf.at 10 d (by decide)
    have e12 : h' 12 d = h 12 d := hf.at 12 d (by decide)
    have hdv := hDV.2.2.1 d d0
    have hdd := hD.2.2.1 d
    have hD1 := hD.1
    refine wq_iload_n (kk := 3) (q := 68) rfl rfl rfl ?_
    refine wq_aload_n (kk := 0) (q := 69) rfl rfl rfl ?_
    refine wq_getI (kz := 0) (q := 72) rfl f_Ne_60 rfl rfl (Or.inl ⟨rfl, Nat.le_of_ble_eq_true rfl⟩) rfl rfl ?_
    refine wq_icmp_ge (tgt := 163) (q := 75) rfl rfl rfl (fun c72 => ?_) (fun c72 => ?_)
    · skip
      have ed : d = nN N := by omega
      subst ed
      refine Ne_takeE N b h r h' _ hV hf ⟨hc, by rw [hf.at 2 1 (by decide)]; exact hD.2.1, fun x hx' => ?_, hg⟩ hP
      have z := hx x hx'.1 hx'.2
      have y := hD.2.2.1 x hx'
      exact ⟨z.1, z.2.1, by rw [hf.at 6 x (by decide)]; exact y.2.2.1, by rw [hf.at 7 x (by decide)]; exact y.2.2.2.1, by rw [hf.at 5 x (by decide)]; exact y.2.2.2.2.1, z.2.2⟩
    · skip
      refine wq_aload_n (kk := 0) (q := 76) rfl rfl rfl ?_
      refine wq_getF (q := 79) f_Ne_9 rfl rfl (Nat.le_of_ble_eq_true rfl) rfl rfl rfl ?_
      refine wq_iload_n (kk := 3) (q := 80) rfl rfl rfl ?_
      refine wq_aload_n (kk := 0) (q := 81) rfl rfl rfl ?_
      refine wq_getR (q := 84) f_Ne_37 rfl rfl (Or.inl ⟨rfl, Nat.le_of_ble_eq_true rfl⟩) hnde rfl rfl ?_
      refine wq_getF (q := 87) f_Ne_61 rfl rfl (Nat.le_of_ble_eq_true rfl) rfl rfl rfl ?_
      refine wq_iload_n (kk := 3) (q := 88) rfl rfl rfl ?_
      refine wq_iald (q := 89) rfl (Or.inl ⟨rfl, Nat.le_of_ble_eq_true rfl⟩) rfl rfl (by first | omega | (have := hdv (by omega); first | omega | (simp [hup]; omega))) (by first | omega | (have := hdv (by omega); first | omega | (simp [hup]; omega))) ?_
      refine wq_iload_n (kk := 2) (q := 90) rfl rfl rfl ?_
      refine wq_if_eq (tgt := 97) (q := 93) rfl rfl rfl (fun c90 => ?_) (fun c90 => ?_)
      · skip
        refine wq_aload_n (kk := 0) (q := 98) rfl rfl rfl ?_
        refine wq_getR (q := 101) f_Ne_37 rfl rfl (Or.inl ⟨rfl, Nat.le_of_ble_eq_true rfl⟩) hnde rfl rfl ?_
        refine wq_getF (q := 104) f_Ne_64 rfl rfl (Nat.le_of_ble_eq_true rfl) rfl rfl rfl ?_
        refine wq_iload_n (kk := 3) (q := 105) rfl rfl rfl ?_
        refine wq_iald (q := 106) rfl (Or.inl ⟨rfl, Nat.le_of_ble_eq_true rfl⟩) rfl rfl (by first | omega | (have := hdv (by omega); first | omega | (simp [hup]; omega))) (by first | omega | (have := hdv (by omega); first | omega | (simp [hup]; omega))) ?_
        refine wq_iadd (q := 107) rfl rfl (by first | omega | (have := hdv (by omega); first | omega | (simp [hup]; omega))) (by first | omega | (have := hdv (by omega); first | omega | (simp [hup]; omega))) ?_
        refine wq_iast (q := 108) rfl (Or.inl ⟨rfl, Nat.le_of_ble_eq_true rfl⟩) rfl rfl (by first | omega | (have := hdv (by omega); first | omega | (simp [hup]; omega))) (by first | omega | (have := hdv (by omega); first | omega | (simp [hup]; omega))) ?_
        refine wq_aload_n (kk := 0) (q := 109) rfl rfl rfl ?_
        refine wq_getF (q := 112) f_Ne_15 rfl rfl (Nat.le_of_ble_eq_true rfl) rfl rfl rfl ?_
        refine wq_iload_n (kk := 3) (q := 113) rfl rfl rfl ?_
        refine wq_aload_n (kk := 0) (q := 114) rfl rfl rfl ?_
        refine wq_getF (q := 117) f_Ne_9 rfl rfl (Nat.le_of_ble_eq_true rfl) rfl rfl rfl ?_
        refine wq_iload_n (kk := 3) (q := 118) rfl rfl rfl ?_
        refine wq_iald (q := 119) rfl (Or.inl ⟨rfl, Nat.le_of_ble_eq_true rfl⟩) rfl rfl (by first | omega | (have := hdv (by omega); first | omega | (simp [hup]; omega))) (by first | omega | (have := hdv (by omega); first | omega | (simp [hup]; omega))) ?_
        refine wq_aload_n (kk := 0) (q := 120) rfl rfl rfl ?_
        refine wq_getR (q := 123) f_Ne_37 rfl rfl (Or.inl ⟨rfl, Nat.le_of_ble_eq_true rfl⟩) hnde rfl rfl ?_
        refine wq_getF (q := 126) f_Ne_67 rfl rfl (Nat.le_of_ble_eq_true rfl) rfl rfl rfl ?_
        refine wq_iload_n (kk := 3) (q := 127) rfl rfl rfl ?_
        refine wq_iald (q := 128) rfl (Or.inl ⟨rfl, Nat.le_of_ble_eq_true rfl⟩) rfl rfl (by first | omega | (have := hdv (by omega); first | omega | (simp [hup]; omega))) (by first | omega | (have := hdv (by omega); first | omega | (simp [hup]; omega))) ?_
        refine wq_iadd (q := 129) rfl rfl (by first | omega | (have := hdv (by omega); first | omega | (simp [hup]; omega))) (by first | omega | (have := hdv (by omega); first | omega | (simp [hup]; omega))) ?_
        refine wq_iast (q := 130) rfl (Or.inl ⟨rfl, Nat.le_of_ble_eq_true rfl⟩) rfl rfl (by first | omega | (have := hdv (by omega); first | omega | (simp [hup]; omega))) (by first | omega | (have := hdv (by omega); first | omega | (simp [hup]; omega))) ?_
        refine wq_aload_n (kk := 0) (q := 131) rfl rfl rfl ?_
        refine wq_getF (q := 134) f_Ne_18 rfl rfl (Nat.le_of_ble_eq_true rfl) rfl rfl rfl ?_
        refine wq_iload_n (kk := 3) (q := 135) rfl rfl rfl ?_
        refine wq_iload_n (kk := 2) (q := 136) rfl rfl rfl ?_
        refine wq_if_ne (tgt := 151) (q := 139) rfl rfl rfl (fun c136 => ?_) (fun c136 => ?_)
        · skip
          refine wq_iconst (n := 1) (q := 152) rfl rfl rfl ?_
          refine wq_goto (tgt := 156) rfl rfl ?_
          refine wq_zast (q := 157) rfl (Or.inl ⟨rfl, Nat.le_of_ble_eq_true rfl⟩) rfl rfl (by first | omega | (have := hdv (by omega); first | omega | (simp [hup]; omega))) (by first | omega | (have := hdv (by omega); first | omega | (simp [hup]; omega))) (by omega) ?_
          refine wq_iinc (i := 3) (n := 1) (q := 160) rfl rfl rfl (Nat.le_of_ble_eq_true rfl) rfl (by first | omega | (have := hdv (by omega); first | omega | (simp [hup]; omega))) (by first | omega | (have := hdv (by omega); first | omega | (simp [hup]; omega))) ?_
          refine wq_goto (tgt := 67) rfl rfl ?_
          have hv := hdv (by omega)
          have hy := hdd ⟨d0, by omega⟩
          try simp [hup] at c148
          refine ih _ ?_ (d + 1) _ rfl (by omega) (by omega) (((hf.up (by decide)).up (by decide)).up (by decide)) (by simp [hup]; exact hc) (by rw [hup_ne (by decide), hup_ne (by decide), hup_ne (by decide)]; exact hP) (fun s s0 s1 => by simpa [hup] using hg s s0 s1) (fun x x0 x1 => ?_)
          · omega
          · by_cases ex : x = d
            · subst ex
              simp [hup]
              rcases hb with rfl | rfl
              · simp at hy ⊢; omega
              · simp at hy ⊢; omega
            · simp [hup, ex]
              exact hx x x0 (by omega)
        · skip
          refine wq_aload_n (kk := 0) (q := 140) rfl rfl rfl ?_
          refine wq_getR (q := 143) f_Ne_37 rfl rfl (Or.inl ⟨rfl, Nat.le_of_ble_eq_true rfl⟩) hnde rfl rfl ?_
          refine wq_getF (q := 146) f_Ne_70 rfl rfl (Nat.le_of_ble_eq_true rfl) rfl rfl rfl ?_
          refine wq_iload_n (kk := 3) (q := 147) rfl rfl rfl ?_
          refine wq_zald (q := 148) rfl (Or.inl ⟨rfl, Nat.le_of_ble_eq_true rfl⟩) rfl rfl (by first | omega | (have := hdv (by omega); first | omega | (simp [hup]; omega))) (by first | omega | (have := hdv (by omega); first | omega | (simp [hup]; omega))) ?_
          refine wq_if_ne (tgt := 155) (q := 151) rfl rfl rfl (fun c148 => ?_) (fun c148 => ?_)
          · skip
            refine wq_iconst (n := 0) (q := 156) rfl rfl rfl ?_
            refine wq_zast (q := 157) rfl (Or.inl ⟨rfl, Nat.le_of_ble_eq_true rfl⟩) rfl rfl (by first | omega | (have := hdv (by omega); first | omega | (simp [hup]; omega))) (by first | omega | (have := hdv (by omega); first | omega | (simp [hup]; omega))) (by omega) ?_
            refine wq_iinc (i := 3) (n := 1) (q := 160) rfl rfl rfl (Nat.le_of_ble_eq_true rfl) rfl (by first | omega | (have := hdv (by omega); first | omega | (simp [hup]; omega))) (by first | omega | (have := hdv (by omega); first | omega | (simp [hup]; omega))) ?_
            refine wq_goto (tgt := 67) rfl rfl ?_
            have hv := hdv (by omega)
            have hy := hdd ⟨d0, by omega⟩
            try simp [hup] at c148
            refine ih _ ?_ (d + 1) _ rfl (by omega) (by omega) (((hf.up (by decide)).up (by decide)).up (by decide)) (by simp [hup]; exact hc) (by rw [hup_ne (by decide), hup_ne (by decide), hup_ne (by decide)]; exact hP) (fun s s0 s1 => by simpa [hup] using hg s s0 s1) (fun x x0 x1 => ?_)
            · omega
            · by_cases ex : x = d
              · subst ex
                simp [hup]
                rcases hb with rfl | rfl
                · simp at hy ⊢; omega
                · simp at hy ⊢; omega
              · simp [hup, ex]
                exact hx x x0 (by omega)
          · skip
            refine wq_iconst (n := 1) (q := 152) rfl rfl rfl ?_
            refine wq_goto (tgt := 156) rfl rfl ?_
            refine wq_zast (q := 157) rfl (Or.inl ⟨rfl, Nat.le_of_ble_eq_true rfl⟩) rfl rfl (by first | omega | (have := hdv (by omega); first | omega | (simp [hup]; omega))) (by first | omega | (have := hdv (by omega); first | omega | (simp [hup]; omega))) (by omega) ?_
            refine wq_iinc (i := 3) (n := 1) (q := 160) rfl rfl rfl (Nat.le_of_ble_eq_true rfl) rfl (by first | omega | (have := hdv (by omega); first | omega | (simp [hup]; omega))) (by first | omega | (have := hdv (by omega); first | omega | (simp [hup]; omega))) ?_
            refine wq_goto (tgt := 67) rfl rfl ?_
            have hv := hdv (by omega)
            have hy := hdd ⟨d0, by omega⟩
            try simp [hup] at c148
            refine ih _ ?_ (d + 1) _ rfl (by omega) (by omega) (((hf.up (by decide)).up (by decide)).up (by decide)) (by simp [hup]; exact hc) (by rw [hup_ne (by decide), hup_ne (by decide), hup_ne (by decide)]; exact hP) (fun s s0 s1 => by simpa [hup] using hg s s0 s1) (fun x x0 x1 => ?_)
            · omega
            · by_cases ex : x = d
              · subst ex
                simp [hup]
                rcases hb with rfl | rfl
                · simp at hy ⊢; omega
                · simp at hy ⊢; omega
              · simp [hup, ex]
                exact hx x x0 (by omega)
      · skip
        refine wq_iconst (n := 0) (q := 94) rfl rfl rfl ?_
        refine wq_goto (tgt := 106) rfl rfl ?_
        refine wq_iadd (q := 107) rfl rfl (by first | omega | (have := hdv (by omega); first | omega | (simp [hup]; omega))) (by first | omega | (have := hdv (by omega); first | omega | (simp [hup]; omega))) ?_
        refine wq_iast (q := 108) rfl (Or.inl ⟨rfl, Nat.le_of_ble_eq_true rfl⟩) rfl rfl (by first | omega | (have := hdv (by omega); first | omega | (simp [hup]; omega))) (by first | omega | (have := hdv (by omega); first | omega | (simp [hup]; omega))) ?_
        refine wq_aload_n (kk := 0) (q := 109) rfl rfl rfl ?_
        refine wq_getF (q := 112) f_Ne_15 rfl rfl (Nat.le_of_ble_eq_true rfl) rfl rfl rfl ?_
        refine wq_iload_n (kk := 3) (q := 113) rfl rfl rfl ?_
        refine wq_aload_n (kk := 0) (q := 114) rfl rfl rfl ?_
        refine wq_getF (q := 117) f_Ne_9 rfl rfl (Nat.le_of_ble_eq_true rfl) rfl rfl rfl ?_
        refine wq_iload_n (kk := 3) (q := 118) rfl rfl rfl ?_
        refine wq_iald (q := 119) rfl (Or.inl ⟨rfl, Nat.le_of_ble_eq_true rfl⟩) rfl rfl (by first | omega | (have := hdv (by omega); first | omega | (simp [hup]; omega))) (by first | omega | (have := hdv (by omega); first | omega | (simp [hup]; omega))) ?_
        refine wq_aload_n (kk := 0) (q := 120) rfl rfl rfl ?_
        refine wq_getR (q := 123) f_Ne_37 rfl rfl (Or.inl ⟨rfl, Nat.le_of_ble_eq_true rfl⟩) hnde rfl rfl ?_
        refine wq_getF (q := 126) f_Ne_67 rfl rfl (Nat.le_of_ble_eq_true rfl) rfl rfl rfl ?_
        refine wq_iload_n (kk := 3) (q := 127) rfl rfl rfl ?_
        refine wq_iald (q := 128) rfl (Or.inl ⟨rfl, Nat.le_of_ble_eq_true rfl⟩) rfl rfl (by first | omega | (have := hdv (by omega); first | omega | (simp [hup]; omega))) (by first | omega | (have := hdv (by omega); first | omega | (simp [hup]; omega))) ?_
        refine wq_iadd (q := 129) rfl rfl (by first | omega | (have := hdv (by omega); first | omega | (simp [hup]; omega))) (by first | omega | (have := hdv (by omega); first | omega | (simp [hup]; omega))) ?_
        refine wq_iast (q := 130) rfl (Or.inl ⟨rfl, Nat.le_of_ble_eq_true rfl⟩) rfl rfl (by first | omega | (have := hdv (by omega); first | omega | (simp [hup]; omega))) (by first | omega | (have := hdv (by omega); first | omega | (simp [hup]; omega))) ?_
        refine wq_aload_n (kk := 0) (q := 131) rfl rfl rfl ?_
        refine wq_getF (q := 134) f_Ne_18 rfl rfl (Nat.le_of_ble_eq_true rfl) rfl rfl rfl ?_
        refine wq_iload_n (kk := 3) (q := 135) rfl rfl rfl ?_
        refine wq_iload_n (kk := 2) (q := 136) rfl rfl rfl ?_
        refine wq_if_ne (tgt := 151) (q := 139) rfl rfl rfl (fun c136 => ?_) (fun c136 => ?_)
        · skip
          refine wq_iconst (n := 1) (q := 152) rfl rfl rfl ?_
          refine wq_goto (tgt := 156) rfl rfl ?_
          refine wq_zast (q := 157) rfl (Or.inl ⟨rfl, Nat.le_of_ble_eq_true rfl⟩) rfl rfl (by first | omega | (have := hdv (by omega); first | omega | (simp [hup]; omega))) (by first | omega | (have := hdv (by omega); first | omega | (simp [hup]; omega))) (by omega) ?_
          refine wq_iinc (i := 3) (n := 1) (q := 160) rfl rfl rfl (Nat.le_of_ble_eq_true rfl) rfl (by first | omega | (have := hdv (by omega); first | omega | (simp [hup]; omega))) (by first | omega | (have := hdv (by omega); first | omega | (simp [hup]; omega))) ?_
          refine wq_goto (tgt := 67) rfl rfl ?_
          have hv := hdv (by omega)
          have hy := hdd ⟨d0, by omega⟩
          try simp [hup] at c148
          refine ih _ ?_ (d + 1) _ rfl (by omega) (by omega) (((hf.up (by decide)).up (by decide)).up (by decide)) (by simp [hup]; exact hc) (by rw [hup_ne (by decide), hup_ne (by decide), hup_ne (by decide)]; exact hP) (fun s s0 s1 => by simpa [hup] using hg s s0 s1) (fun x x0 x1 => ?_)
          · omega
          · by_cases ex : x = d
            · subst ex
              simp [hup]
              rcases hb with rfl | rfl
              · simp at hy ⊢; omega
              · simp at hy ⊢; omega
            · simp [hup, ex]
              exact hx x x0 (by omega)
        · skip
          refine wq_aload_n (kk := 0) (q := 140) rfl rfl rfl ?_
          refine wq_getR (q := 143) f_Ne_37 rfl rfl (Or.inl ⟨rfl, Nat.le_of_ble_eq_true rfl⟩) hnde rfl rfl ?_
          refine wq_getF (q := 146) f_Ne_70 rfl rfl (Nat.le_of_ble_eq_true rfl) rfl rfl rfl ?_
          refine wq_iload_n (kk := 3) (q := 147) rfl rfl rfl ?_
          refine wq_zald (q := 148) rfl (Or.inl ⟨rfl, Nat.le_of_ble_eq_true rfl⟩) rfl rfl (by first | omega | (have := hdv (by omega); first | omega | (simp [hup]; omega))) (by first | omega | (have := hdv (by omega); first | omega | (simp [hup]; omega))) ?_
          refine wq_if_ne (tgt := 155) (q := 151) rfl rfl rfl (fun c148 => ?_) (fun c148 => ?_)
          · skip
            refine wq_iconst (n := 0) (q := 156) rfl rfl rfl ?_
            refine wq_zast (q := 157) rfl (Or.inl ⟨rfl, Nat.le_of_ble_eq_true rfl⟩) rfl rfl (by first | omega | (have := hdv (by omega); first | omega | (simp [hup]; omega))) (by first | omega | (have := hdv (by omega); first | omega | (simp [hup]; omega))) (by omega) ?_
            refine wq_iinc (i := 3) (n := 1) (q := 160) rfl rfl rfl (Nat.le_of_ble_eq_true rfl) rfl (by first | omega | (have := hdv (by omega); first | omega | (simp [hup]; omega))) (by first | omega | (have := hdv (by omega); first | omega | (simp [hup]; omega))) ?_
            refine wq_goto (tgt := 67) rfl rfl ?_
            have hv := hdv (by omega)
            have hy := hdd ⟨d0, by omega⟩
            try simp [hup] at c148
            refine ih _ ?_ (d + 1) _ rfl (by omega) (by omega) (((hf.up (by decide)).up (by decide)).up (by decide)) (by simp [hup]; exact hc) (by rw [hup_ne (by decide), hup_ne (by decide), hup_ne (by decide)]; exact hP) (fun s s0 s1 => by simpa [hup] using hg s s0 s1) (fun x x0 x1 => ?_)
            · omega
            · by_cases ex : x = d
              · subst ex
                simp [hup]
                rcases hb with rfl | rfl
                · simp at hy ⊢; omega
                · simp at hy ⊢; omega
              · simp [hup, ex]
                exact hx x x0 (by omega)
          · skip
            refine wq_iconst (n := 1) (q := 152) rfl rfl rfl ?_
            refine wq_goto (tgt := 156) rfl rfl ?_
            refine wq_zast (q := 157) rfl (Or.inl ⟨rfl, Nat.le_of_ble_eq_true rfl⟩) rfl rfl (by first | omega | (have := hdv (by omega); first | omega | (simp [hup]; omega))) (by first | omega | (have := hdv (by omega); first | omega | (simp [hup]; omega))) (by omega) ?_
            refine wq_iinc (i := 3) (n := 1) (q := 160) rfl rfl rfl (Nat.le_of_ble_eq_true rfl) rfl (by first | omega | (have := hdv (by omega); first | omega | (simp [hup]; omega))) (by first | omega | (have := hdv (by omega); first | omega | (simp [hup]; omega))) ?_
            refine wq_goto (tgt := 67) rfl rfl ?_
            have hv := hdv (by omega)
            have hy := hdd ⟨d0, by omega⟩
            try simp [hup] at c148
            refine ih _ ?_ (d + 1) _ rfl (by omega) (by omega) (((hf.up (by decide)).up (by decide)).up (by decide)) (by simp [hup]; exact hc) (by rw [hup_ne (by decide), hup_ne (by decide), hup_ne (by decide)]; exact hP) (fun s s0 s1 => by simpa [hup] using hg s s0 s1) (fun x x0 x1 => ?_)
            · omega
            · by_cases ex : x = d
              · subst ex
                simp [hup]
                rcases hb with rfl | rfl
                · simp at hy ⊢; omega
                · simp at hy ⊢; omega
              · simp [hup, ex]
                exact hx x x0 (by omega)
set_option maxRecDepth 100000 in
set_option maxHeartbeats 2000000 in
theorem Ne_takeA (N : mN) (b : Int) (hb : b = 0 ∨ b = 1) (h : mH) (r : mR) (hV : NV N) (hD : isD h b N) (hDV : DV h) (hc : 0 ≤ h 31 0 ∧ h 31 0 ≤ 120) (hP : Pm (h 35) (h 31 0)) : ∀ (M : Nat) (s : Int) (h' : mH), (nS N - s).toNat = M → 0 ≤ s → s ≤ nS N → fr [38, 39] h h' → (∀ t, 0 ≤ t → t < s → h' 38 t = gp N t ∧ h' 39 t = pt N t) → WP (true, rm 3) m_Ne_take (rt m_Ne_take (rm 3) (ldQ h r N)) 7 [some (vR 31), some (vR 2), some (vI b), some (vI s)] [] h' (rN r) (0, 0) := by
  intro M
  induction M using Nat.strongRecOn with
  | ind M ih =>
    intro s h' hM s0 s1 hf hx
    have hnde := rN_d r
    have hn := hV.2.1
    have hn1 := hV.1
    have e2 : h' 2 1 = nS N := by rw [hf.at 2 1 (by decide)]; exact hD.2.1
    have e24 : h' 2 4 = nN N := by rw [hf.at 2 4 (by decide)]; exact hD.1
    have e31 : h' 31 0 = h 31 0 := hf.at 31 0 (by decide)
    have e35 : h' 35 = h 35 := hf 35 (by decide)
    have e3 : h' 3 s = h 3 s := hf.at 3 s (by decide)
    have e4 : h' 4 s = h 4 s := hf.at 4 s (by decide)
    refine wq_iload_n (kk := 3) (q := 8) rfl rfl rfl ?_
    refine wq_aload_n (kk := 0) (q := 9) rfl rfl rfl ?_
    refine wq_getR (q := 12) f_Ne_37 rfl rfl (Or.inl ⟨rfl, Nat.le_of_ble_eq_true rfl⟩) hnde rfl rfl ?_
    refine wq_getI (kz := 1) (q := 15) rfl f_Ne_45 rfl rfl (Or.inl ⟨rfl, Nat.le_of_ble_eq_true rfl⟩) rfl rfl ?_
    refine wq_icmp_ge (tgt := 54) (q := 18) rfl rfl rfl (fun c15 => ?_) (fun c15 => ?_)
    · skip
      refine wq_aload_n (kk := 0) (q := 55) rfl rfl rfl ?_
      refine wq_aload_n (kk := 0) (q := 56) rfl rfl rfl ?_
      refine wq_getR (q := 59) f_Ne_37 rfl rfl (Or.inl ⟨rfl, Nat.le_of_ble_eq_true rfl⟩) hnde rfl rfl ?_
      refine wq_getI (kz := 4) (q := 62) rfl f_Ne_53 rfl rfl (Or.inl ⟨rfl, Nat.le_of_ble_eq_true rfl⟩) rfl rfl ?_
      refine wq_callV (q := 65) (m' := m_Ne_keepOrder) (R' := rm 1) (As := [_]) rfl rfl l_Ne_56 vm_Ne_keepOrder rfl rfl rfl (Or.inl ⟨rfl, Nat.le_of_ble_eq_true rfl⟩) (Nat.le_of_ble_eq_true rfl) (Nat.le_of_ble_eq_true rfl) (Nat.le_refl _) (Nat.le_refl _) (Nat.le_of_ble_eq_true rfl) (Ne_keepOrder_ok (h' 2 4) h' (rN r) (by omega) (by omega) (by rw [e31, e35]; exact hP)) rfl ?_
      rintro rv h2 r2 ⟨rfl, rfl, f2, c2, p2⟩ -
      refine wq_iconst (n := 0) (q := 66) rfl rfl rfl ?_
      refine wq_istore_n (kk := 3) (q := 67) rfl rfl (Nat.le_of_ble_eq_true rfl) rfl ?_
      rw [e24] at c2 p2
      have es : s = nS N := by omega
      subst es
      refine Ne_takeD N b hb h r hV hD hDV _ 0 h2 rfl (by omega) (by omega) ((hf.mono (by decide)).trans f2 (by decide)) c2 p2 (fun t t0 t1 => ?_) (fun x x0 x1 => by omega)
      rw [f2.at 38 t (by decide), f2.at 39 t (by decide)]
      exact hx t t0 t1
    · skip
      refine wq_aload_n (kk := 0) (q := 19) rfl rfl rfl ?_
      refine wq_getF (q := 22) f_Ne_31 rfl rfl (Nat.le_of_ble_eq_true rfl) rfl rfl rfl ?_
      refine wq_iload_n (kk := 3) (q := 23) rfl rfl rfl ?_
      refine wq_aload_n (kk := 0) (q := 24) rfl rfl rfl ?_
      refine wq_getR (q := 27) f_Ne_37 rfl rfl (Or.inl ⟨rfl, Nat.le_of_ble_eq_true rfl⟩) hnde rfl rfl ?_
      refine wq_getF (q := 30) f_Ne_51 rfl rfl (Nat.le_of_ble_eq_true rfl) rfl rfl rfl ?_
      refine wq_iload_n (kk := 3) (q := 31) rfl rfl rfl ?_
      refine wq_iald (q := 32) rfl (Or.inl ⟨rfl, Nat.le_of_ble_eq_true rfl⟩) rfl rfl (by first | omega | (simp [hup]; omega)) (by first | omega | (simp [hup]; omega)) ?_
      refine wq_iast (q := 33) rfl (Or.inl ⟨rfl, Nat.le_of_ble_eq_true rfl⟩) rfl rfl (by first | omega | (simp [hup]; omega)) (by first | omega | (simp [hup]; omega)) ?_
      refine wq_aload_n (kk := 0) (q := 34) rfl rfl rfl ?_
      refine wq_getF (q := 37) f_Ne_34 rfl rfl (Nat.le_of_ble_eq_true rfl) rfl rfl rfl ?_
      refine wq_iload_n (kk := 3) (q := 38) rfl rfl rfl ?_
      refine wq_aload_n (kk := 0) (q := 39) rfl rfl rfl ?_
      refine wq_getR (q := 42) f_Ne_37 rfl rfl (Or.inl ⟨rfl, Nat.le_of_ble_eq_true rfl⟩) hnde rfl rfl ?_
      refine wq_getF (q := 45) f_Ne_52 rfl rfl (Nat.le_of_ble_eq_true rfl) rfl rfl rfl ?_
      refine wq_iload_n (kk := 3) (q := 46) rfl rfl rfl ?_
      refine wq_iald (q := 47) rfl (Or.inl ⟨rfl, Nat.le_of_ble_eq_true rfl⟩) rfl rfl (by first | omega | (simp [hup]; omega)) (by first | omega | (simp [hup]; omega)) ?_
      refine wq_iast (q := 48) rfl (Or.inl ⟨rfl, Nat.le_of_ble_eq_true rfl⟩) rfl rfl (by first | omega | (simp [hup]; omega)) (by first | omega | (simp [hup]; omega)) ?_
      refine wq_iinc (i := 3) (n := 1) (q := 51) rfl rfl rfl (Nat.le_of_ble_eq_true rfl) rfl (by first | omega | (simp [hup]; omega)) (by first | omega | (simp [hup]; omega)) ?_
      refine wq_goto (tgt := 7) rfl rfl ?_
      have hd := hD.2.2.2 s s0 (by omega)
      refine ih _ ?_ (s + 1) _ rfl (by omega) (by omega) ((hf.up (by decide)).up (by decide)) (fun t t0 t1 => ?_)
      · omega
      · by_cases et : t = s
        · subst et; simp [hup]; omega
        · simp [hup, et]; exact hx t t0 (by omega)
set_option maxRecDepth 100000 in
theorem Ne_take_ok (N : mN) (b : Int) (hb : b = 0 ∨ b = 1) (h : mH) (r : mR) (hV : NV N) (hD : isD h b N) (hDV : DV h) (hc : 0 ≤ h 31 0 ∧ h 31 0 ≤ 120) (hP : Pm (h 35) (h 31 0)) : Meets true (rm 3) m_Ne_take [vR 31, vR 2, vI b] h r (ldQ h r N) := by
  have hn := hV.2.1
  refine ⟨ok_Ne_take, Nat.le_of_ble_eq_true rfl, ?_⟩
  refine wq_aload_n (kk := 0) (q := 1) rfl rfl rfl ?_
  refine wq_aload_n (kk := 1) (q := 2) rfl rfl rfl ?_
  refine wq_putR (q := 5) f_Ne_37 rfl rfl rfl (Or.inl ⟨rfl, Nat.le_of_ble_eq_true rfl⟩) (Or.inl ⟨rfl, Nat.le_of_ble_eq_true rfl⟩) (fun _ => rfl) rfl rfl ?_
  refine wq_iconst (n := 0) (q := 6) rfl rfl rfl ?_
  refine wq_istore_n (kk := 3) (q := 7) rfl rfl (Nat.le_of_ble_eq_true rfl) rfl ?_
  exact Ne_takeA N b hb h r hV hD hDV hc hP _ 0 h rfl (by omega) (by omega) fr.rf (fun t t0 t1 => by omega)
set_option maxRecDepth 100000 in
theorem Ne_load_ok (N : mN) (h : mH) (r : mR) (hV : NV N) (hD : isD h 0 N) (hDV : DV h) (hc : 0 ≤ h 31 0 ∧ h 31 0 ≤ 120) (hP : Pm (h 35) (h 31 0)) : Meets true (rm 4) m_Ne_load [vR 31, vR 2] h r (ldQ h r N) := by
  refine ⟨ok_Ne_load, Nat.le_of_ble_eq_true rfl, ?_⟩
  refine wq_aload_n (kk := 0) (q := 1) rfl rfl rfl ?_
  refine wq_aload_n (kk := 1) (q := 2) rfl rfl rfl ?_
  refine wq_iconst (n := 0) (q := 3) rfl rfl rfl ?_
  refine wq_callV (q := 6) (m' := m_Ne_take) (R' := rm 3) (As := [_, _]) rfl rfl l_Ne_41 vm_Ne_take rfl rfl rfl (Or.inl ⟨rfl, Nat.le_of_ble_eq_true rfl⟩) (Nat.le_of_ble_eq_true rfl) (Nat.le_of_ble_eq_true rfl) (Nat.le_refl _) (Nat.le_refl _) (Nat.le_of_ble_eq_true rfl) (Ne_take_ok N 0 (Or.inl rfl) h r hV hD hDV hc hP) rfl ?_
  rintro rv h1 r1 ⟨rfl, rfl, hl⟩ -
  exact wq_vret rfl rfl (Nat.le_refl _) (Nat.le_refl _) ⟨rfl, rfl, hl⟩
set_option maxRecDepth 100000 in
theorem Ne_loadAsTold_ok (N : mN) (h : mH) (r : mR) (hV : NV N) (hD : isD h 1 N) (hDV : DV h) (hc : 0 ≤ h 31 0 ∧ h 31 0 ≤ 120) (hP : Pm (h 35) (h 31 0)) : Meets true (rm 4) m_Ne_loadAsTold [vR 31, vR 2] h r (ldQ h r N) := by
  refine ⟨ok_Ne_loadAsTold, Nat.le_of_ble_eq_true rfl, ?_⟩
  refine wq_aload_n (kk := 0) (q := 1) rfl rfl rfl ?_
  refine wq_aload_n (kk := 1) (q := 2) rfl rfl rfl ?_
  refine wq_iconst (n := 1) (q := 3) rfl rfl rfl ?_
  refine wq_callV (q := 6) (m' := m_Ne_take) (R' := rm 3) (As := [_, _]) rfl rfl l_Ne_41 vm_Ne_take rfl rfl rfl (Or.inl ⟨rfl, Nat.le_of_ble_eq_true rfl⟩) (Nat.le_of_ble_eq_true rfl) (Nat.le_of_ble_eq_true rfl) (Nat.le_refl _) (Nat.le_refl _) (Nat.le_of_ble_eq_true rfl) (Ne_take_ok N 1 (Or.inr rfl) h r hV hD hDV hc hP) rfl ?_
  rintro rv h1 r1 ⟨rfl, rfl, hl⟩ -
  exact wq_vret rfl rfl (Nat.le_refl _) (Nat.le_refl _) ⟨rfl, rfl, hl⟩

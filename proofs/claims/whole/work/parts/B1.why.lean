/-! LinkTimesModel: why -/
/-- the row R tells N if departures all ran, without delays -/
def asT (R : mF) (N : mN) : Prop := R 4 = nN N ∧ R 1 = nS N ∧ (∀ d, dp N d → R (25 + 8 * d + 3) = lv N d ∧ lv N d + R (25 + 8 * d + 4) = ar N d ∧ R (25 + 8 * d + 1) = frm N d ∧ R (25 + 8 * d + 2) = dst N d ∧ R (25 + 8 * d + 0) = ln N d ∧ rn N d = 1) ∧ ∀ s, 0 ≤ s → s < nS N → R (5 + s) = gp N s ∧ R (15 + s) = pt N s
/-- departures of less number than d are as told -/
def asI (R0 R : mF) (d : Int) : Prop := ∀ x, (∃ e, 0 ≤ e ∧ e < d ∧ (x = 25 + 8 * e + 5 ∧ R x = 0 ∨ x = 25 + 8 * e + 6 ∧ R x = 1)) ∨ ((∀ e, 0 ≤ e → e < d → x ≠ 25 + 8 * e + 5 ∧ x ≠ 25 + 8 * e + 6) ∧ R x = R0 x)
theorem asI_r {R0 R : mF} {N : mN} {n : Int} (hV : NV N) (hA : asT R0 N) (hn : n = nN N) (hI : asI R0 R n) : rT R N := by
  have same : ∀ x, (∀ e, 0 ≤ e → e < n → x ≠ 25 + 8 * e + 5 ∧ x ≠ 25 + 8 * e + 6) → R x = R0 x := fun x hx => by
    rcases hI x with ⟨e, e0, e1, ⟨z, -⟩ | ⟨z, -⟩⟩ | ⟨-, z⟩
    · exact absurd z (hx e e0 e1).1
    · exact absurd z (hx e e0 e1).2
    · exact z
  obtain ⟨a1, a2, a3, a4⟩ := hA
  have hS := hV.2.1
  refine ⟨?_, ?_, fun d hd => ?_, fun s s0 s1 => ?_⟩
  · rw [same 4 (fun e e0 e1 => by omega)]; exact a1
  · rw [same 1 (fun e e0 e1 => by omega)]; exact a2
  · have z := a3 d hd
    have d0 := hd.1
    have d1 := hd.2
    have h5 : R (25 + 8 * d + 5) = 0 := by
      rcases hI (25 + 8 * d + 5) with ⟨e, e0, e1, ⟨y, w⟩ | ⟨y, w⟩⟩ | ⟨y, -⟩
      · exact w
      · omega
      · exact absurd rfl (y d d0 (by omega)).1
    have h6 : R (25 + 8 * d + 6) = 1 := by
      rcases hI (25 + 8 * d + 6) with ⟨e, e0, e1, ⟨y, w⟩ | ⟨y, w⟩⟩ | ⟨y, -⟩
      · omega
      · exact w
      · exact absurd rfl (y d d0 (by omega)).2
    rw [same (25 + 8 * d + 3) (fun e e0 e1 => by omega), same (25 + 8 * d + 4) (fun e e0 e1 => by omega), same (25 + 8 * d + 1) (fun e e0 e1 => by omega), same (25 + 8 * d + 2) (fun e e0 e1 => by omega), same (25 + 8 * d + 0) (fun e e0 e1 => by omega), h5, h6]
    exact ⟨by omega, z.2.1, z.2.2.1, z.2.2.2.1, z.2.2.2.2.1, z.2.2.2.2.2.symm⟩
  · have s1' : s < nS N := s1
    rw [same (5 + s) (fun e e0 e1 => by omega), same (15 + s) (fun e e0 e1 => by omega)]
    exact a4 s s0 s1
/-- spots of less number than s are eased -/
def eaI (R0 R : mF) (s : Int) : Prop := ∀ x, (∃ e, 0 ≤ e ∧ e < s ∧ (x = 5 + e ∧ R x = 0 ∨ x = 15 + e ∧ R x = -2)) ∨ ((∀ e, 0 ≤ e → e < s → x ≠ 5 + e ∧ x ≠ 15 + e) ∧ R x = R0 x)
theorem eaI_r {R0 R : mF} {N : mN} {n : Int} (hV : NV N) (hA : rT R0 N) (hn : n = nS N) (hI : eaI R0 R n) : rT R (nEase N) := by
  have hS := hV.2.1
  have same : ∀ x, (∀ e, 0 ≤ e → e < n → x ≠ 5 + e ∧ x ≠ 15 + e) → R x = R0 x := fun x hx => by
    rcases hI x with ⟨e, e0, e1, ⟨z, -⟩ | ⟨z, -⟩⟩ | ⟨-, z⟩
    · exact absurd z (hx e e0 e1).1
    · exact absurd z (hx e e0 e1).2
    · exact z
  obtain ⟨a1, a2, a3, a4⟩ := hA
  refine ⟨?_, ?_, fun d hd => ?_, fun s s0 s1 => ?_⟩
  · rw [same 4 (fun e e0 e1 => by omega)]; exact a1
  · rw [same 1 (fun e e0 e1 => by omega)]; exact a2
  · have z := a3 d hd
    have d0 := hd.1
    rw [same (25 + 8 * d + 3) (fun e e0 e1 => by omega), same (25 + 8 * d + 4) (fun e e0 e1 => by omega), same (25 + 8 * d + 1) (fun e e0 e1 => by omega), same (25 + 8 * d + 2) (fun e e0 e1 => by omega), same (25 + 8 * d + 0) (fun e e0 e1 => by omega), same (25 + 8 * d + 5) (fun e e0 e1 => by omega), same (25 + 8 * d + 6) (fun e e0 e1 => by omega)]
    exact z
  · have s1' : s < nS N := s1
    refine ⟨?_, ?_⟩
    · show R (5 + s) = 0
      rcases hI (5 + s) with ⟨e, e0, e1, ⟨y, w⟩ | ⟨y, w⟩⟩ | ⟨y, -⟩
      · exact w
      · omega
      · exact absurd rfl (y s s0 (by omega)).1
    · show R (15 + s) = -2
      rcases hI (15 + s) with ⟨e, e0, e1, ⟨y, w⟩ | ⟨y, w⟩⟩ | ⟨y, -⟩
      · omega
      · exact w
      · exact absurd rfl (y s s0 (by omega)).2
abbrev caQ (N0 N1 : mN) (a b t : Int) (h : mH) (r : mR) : mP := fun rv h1 r1 => r1 = r ∧ f64 [28] lsC h h1 ∧ rv = some (vI (cr N0 N1 a b t)) ∧ ∀ x, x < 0 ∨ 985 ≤ x → h1 66 x = h 66 x
set_option maxRecDepth 100000 in
set_option maxHeartbeats 1000000 in
theorem Mo_causesE (N0 N1 : mN) (a b t : Int) (h : mH) (r : mR) (R0 : mF) (hV : NV N1) (hb : 0 ≤ b ∧ b < nS N1) (ht : isT t) (hR : rT R0 N1) (c0 : ¬ sn N0 a t b < 1000000) (c1 : ¬ sn N1 a t b < 1000000) : ∀ (M : Nat) (s : Int) (h1 : mH), (nS N1 - s).toNat = M → 0 ≤ s → s ≤ nS N1 → f64 [28] lsC h h1 → eaI R0 (h1 66) s → (∀ x, x < 0 ∨ 985 ≤ x → h1 66 x = h 66 x) → WP (true, rm 8) m_Mo_causes (rt m_Mo_causes (rm 8) (caQ N0 N1 a b t h r)) 76 [some (vR 64), some (vI a), some (vI b), some (vI t), some (vI s)] [] h1 r (0, 0) := by
  intro M
  induction M using Nat.strongRecOn with
  | ind M ih =>
    intro s h1 hN s0 s1 hf hE eo
    have hS := hV.2.1
    have e1 : h1 66 1 = nS N1 := by
      rcases hE 1 with ⟨e, e0, e1, z⟩ | ⟨-, z⟩
      · omega
      · rw [z]; exact hR.2.1
    have hVe := nEase_V hV
    have hbb := bb_bd hVe (a := a) (b := b) (t := t) (by omega)
    have hbb0 := bb_bd hVe (a := a) (b := b) (t := 0) (by omega)
    refine wq_iload (i := 4) (q := 78) rfl rfl rfl ?_
    refine wq_aload_n (kk := 0) (q := 79) rfl rfl rfl ?_
    refine wq_getF (q := 82) f_Mo_17 rfl rfl (Nat.le_of_ble_eq_true rfl) rfl rfl rfl ?_
    refine wq_iconst (n := 1) (q := 83) rfl rfl rfl ?_
    refine wq_iald (q := 84) rfl (Or.inl ⟨rfl, Nat.le_of_ble_eq_true rfl⟩) rfl rfl (by first | omega | (simp [hup]; omega)) (by first | omega | (simp [hup]; omega)) ?_
    refine wq_icmp_ge (tgt := 115) (q := 87) rfl rfl rfl (fun c84 => ?_) (fun c84 => ?_)
    · skip
      have es : s = nS N1 := by omega
      have hMe : isM h1 (nEase N1) := ⟨hVe, eaI_r hV hR es hE⟩
      refine wq_aload_n (kk := 0) (q := 116) rfl rfl rfl ?_
      refine wq_iload_n (kk := 1) (q := 117) rfl rfl rfl ?_
      refine wq_iload_n (kk := 2) (q := 118) rfl rfl rfl ?_
      refine wq_iload_n (kk := 3) (q := 119) rfl rfl rfl ?_
      refine wq_callV (q := 122) (m' := m_Mo_best) (R' := rm 7) (As := [_, _, _]) rfl rfl l_Mo_311 vm_Mo_best rfl rfl rfl (Or.inl ⟨rfl, Nat.le_of_ble_eq_true rfl⟩) (Nat.le_of_ble_eq_true rfl) (Nat.le_of_ble_eq_true rfl) (Nat.le_refl _) (Nat.le_refl _) (Nat.le_of_ble_eq_true rfl) (Mo_best_ok (nEase N1) a b t h1 r hMe hb (by omega)) rfl ?_
      rintro rv h2 r ⟨rfl, f2, rfl, -⟩ -
      have hMe2 := isM_f hMe f2.1 (by decide)
      have f3 : f64 [28] lsC h h2 := hf.tr f2 (fun _ y => y) (by decide)
      have eo' : ∀ x, x < 0 ∨ 985 ≤ x → h2 66 x = h 66 x := fun x hx => by rw [f2.1.at 66 x (by decide)]; exact eo x hx
      refine wq_bipush (n := -2) (q := 124) rfl rfl rfl ?_
      refine wq_icmp_eq (tgt := 129) (q := 127) rfl rfl rfl (fun c124 => ?_) (fun c124 => ?_)
      · skip
        refine wq_aload_n (kk := 0) (q := 130) rfl rfl rfl ?_
        refine wq_iload_n (kk := 1) (q := 131) rfl rfl rfl ?_
        refine wq_iload_n (kk := 2) (q := 132) rfl rfl rfl ?_
        refine wq_iconst (n := 0) (q := 133) rfl rfl rfl ?_
        refine wq_callV (q := 136) (m' := m_Mo_best) (R' := rm 7) (As := [_, _, _]) rfl rfl l_Mo_311 vm_Mo_best rfl rfl rfl (Or.inl ⟨rfl, Nat.le_of_ble_eq_true rfl⟩) (Nat.le_of_ble_eq_true rfl) (Nat.le_of_ble_eq_true rfl) (Nat.le_refl _) (Nat.le_refl _) (Nat.le_of_ble_eq_true rfl) (Mo_best_ok (nEase N1) a b 0 h2 r hMe2 hb (by omega)) rfl ?_
        rintro rv h3 r ⟨rfl, g2, rfl, -⟩ -
        have f4 : f64 [28] lsC h h3 := f3.tr g2 (fun _ y => y) (by decide)
        have eo'' : ∀ x, x < 0 ∨ 985 ≤ x → h3 66 x = h 66 x := fun x hx => by rw [g2.1.at 66 x (by decide)]; exact eo' x hx
        refine wq_bipush (n := -2) (q := 138) rfl rfl rfl ?_
        refine wq_icmp_eq (tgt := 145) (q := 141) rfl rfl rfl (fun c138 => ?_) (fun c138 => ?_)
        · skip
          refine wq_iconst (n := 4) (q := 146) rfl rfl rfl ?_
          refine wq_iret rfl rfl (Nat.le_refl _) (Nat.le_refl _) ⟨rfl, f4, ?_, eo''⟩
          unfold cr
          first
          | rw [if_neg c0, if_neg c1, if_neg (by omega), if_pos (by omega)]
          | rw [if_neg c0, if_neg c1, if_neg (by omega), if_neg (by omega)]
        · skip
          refine wq_iconst (n := 3) (q := 142) rfl rfl rfl ?_
          refine wq_goto (tgt := 146) rfl rfl ?_
          refine wq_iret rfl rfl (Nat.le_refl _) (Nat.le_refl _) ⟨rfl, f4, ?_, eo''⟩
          unfold cr
          first
          | rw [if_neg c0, if_neg c1, if_neg (by omega), if_pos (by omega)]
          | rw [if_neg c0, if_neg c1, if_neg (by omega), if_neg (by omega)]
      · skip
        refine wq_iconst (n := 2) (q := 128) rfl rfl rfl ?_
        refine wq_iret rfl rfl (Nat.le_refl _) (Nat.le_refl _) ⟨rfl, f3, ?_, eo'⟩
        unfold cr
        rw [if_neg c0, if_neg c1, if_pos (by omega)]
    · skip
      refine wq_aload_n (kk := 0) (q := 88) rfl rfl rfl ?_
      refine wq_getF (q := 91) f_Mo_17 rfl rfl (Nat.le_of_ble_eq_true rfl) rfl rfl rfl ?_
      refine wq_iconst (n := 5) (q := 92) rfl rfl rfl ?_
      refine wq_iload (i := 4) (q := 94) rfl rfl rfl ?_
      refine wq_iadd (q := 95) rfl rfl (by first | omega | (simp [hup]; omega)) (by first | omega | (simp [hup]; omega)) ?_
      refine wq_iconst (n := 0) (q := 96) rfl rfl rfl ?_
      refine wq_iast (q := 97) rfl (Or.inl ⟨rfl, Nat.le_of_ble_eq_true rfl⟩) rfl rfl (by first | omega | (simp [hup]; omega)) (by first | omega | (simp [hup]; omega)) ?_
      refine wq_aload_n (kk := 0) (q := 98) rfl rfl rfl ?_
      refine wq_getF (q := 101) f_Mo_17 rfl rfl (Nat.le_of_ble_eq_true rfl) rfl rfl rfl ?_
      refine wq_bipush (n := 15) (q := 103) rfl rfl rfl ?_
      refine wq_iload (i := 4) (q := 105) rfl rfl rfl ?_
      refine wq_iadd (q := 106) rfl rfl (by first | omega | (simp [hup]; omega)) (by first | omega | (simp [hup]; omega)) ?_
      refine wq_bipush (n := -2) (q := 108) rfl rfl rfl ?_
      refine wq_iast (q := 109) rfl (Or.inl ⟨rfl, Nat.le_of_ble_eq_true rfl⟩) rfl rfl (by first | omega | (simp [hup]; omega)) (by first | omega | (simp [hup]; omega)) ?_
      refine wq_iinc (i := 4) (n := 1) (q := 112) rfl rfl rfl (Nat.le_of_ble_eq_true rfl) rfl (by first | omega | (simp [hup]; omega)) (by first | omega | (simp [hup]; omega)) ?_
      refine wq_goto (tgt := 76) rfl rfl ?_
      refine ih _ (by omega) (s + 1) _ rfl (by omega) (by omega) ((hf.uc (by decide) (by decide)).uc (by decide) (by decide)) (fun x => ?_) (fun x hx => ?_)
      · by_cases z1 : x = 15 + s
        · subst z1; rw [hup_s]; exact Or.inl ⟨s, s0, by omega, Or.inr ⟨rfl, rfl⟩⟩
        · rw [hup_j z1]
          by_cases z2 : x = 5 + s
          · subst z2; rw [hup_s]; exact Or.inl ⟨s, s0, by omega, Or.inl ⟨rfl, rfl⟩⟩
          · rw [hup_j z2]
            rcases hE x with ⟨e, e0, e1, z⟩ | ⟨z, w⟩
            · exact Or.inl ⟨e, e0, by omega, z⟩
            · refine Or.inr ⟨fun e e0 e1 => ?_, w⟩
              by_cases ee : e = s
              · subst ee; exact ⟨z2, z1⟩
              · exact z e e0 (by omega)
      · rw [hup_j (by omega), hup_j (by omega)]; exact eo x hx
set_option maxRecDepth 100000 in
set_option maxHeartbeats 1000000 in
theorem Mo_causesL (N0 N1 : mN) (a b t : Int) (h : mH) (r : mR) (R0 : mF) (hV : NV N1) (hb : 0 ≤ b ∧ b < nS N1) (ht : isT t) (hA : asT R0 N1) (c0 : ¬ sn N0 a t b < 1000000) : ∀ (M : Nat) (d : Int) (h1 : mH), (nN N1 - d).toNat = M → 0 ≤ d → d ≤ nN N1 → f64 [28] lsC h h1 → asI R0 (h1 66) d → (∀ x, x < 0 ∨ 985 ≤ x → h1 66 x = h 66 x) → WP (true, rm 8) m_Mo_causes (rt m_Mo_causes (rm 8) (caQ N0 N1 a b t h r)) 17 [some (vR 64), some (vI a), some (vI b), some (vI t), some (vI d)] [] h1 r (0, 0) := by
  intro M
  induction M using Nat.strongRecOn with
  | ind M ih =>
    intro d h1 hN d0 d1 hf hE eo
    have hn := hV.1
    have e4 : h1 66 4 = nN N1 := by
      rcases hE 4 with ⟨e, e0, e1, z⟩ | ⟨-, z⟩
      · omega
      · rw [z]; exact hA.1
    have hbb := bb_bd hV (a := a) (b := b) (t := t) (by omega)
    refine wq_iload (i := 4) (q := 19) rfl rfl rfl ?_
    refine wq_aload_n (kk := 0) (q := 20) rfl rfl rfl ?_
    refine wq_getF (q := 23) f_Mo_17 rfl rfl (Nat.le_of_ble_eq_true rfl) rfl rfl rfl ?_
    refine wq_iconst (n := 4) (q := 24) rfl rfl rfl ?_
    refine wq_iald (q := 25) rfl (Or.inl ⟨rfl, Nat.le_of_ble_eq_true rfl⟩) rfl rfl (by first | omega | (simp [hup]; omega)) (by first | omega | (simp [hup]; omega)) ?_
    refine wq_icmp_ge (tgt := 59) (q := 28) rfl rfl rfl (fun c25 => ?_) (fun c25 => ?_)
    · skip
      have ed : d = nN N1 := by omega
      have hM1 : isM h1 N1 := ⟨hV, asI_r hV hA ed hE⟩
      refine wq_aload_n (kk := 0) (q := 60) rfl rfl rfl ?_
      refine wq_iload_n (kk := 1) (q := 61) rfl rfl rfl ?_
      refine wq_iload_n (kk := 2) (q := 62) rfl rfl rfl ?_
      refine wq_iload_n (kk := 3) (q := 63) rfl rfl rfl ?_
      refine wq_callV (q := 66) (m' := m_Mo_best) (R' := rm 7) (As := [_, _, _]) rfl rfl l_Mo_311 vm_Mo_best rfl rfl rfl (Or.inl ⟨rfl, Nat.le_of_ble_eq_true rfl⟩) (Nat.le_of_ble_eq_true rfl) (Nat.le_of_ble_eq_true rfl) (Nat.le_refl _) (Nat.le_refl _) (Nat.le_of_ble_eq_true rfl) (Mo_best_ok N1 a b t h1 r hM1 hb (by omega)) rfl ?_
      rintro rv h2 r ⟨rfl, f2, rfl, -⟩ -
      have hM2 := isM_f hM1 f2.1 (by decide)
      have f3 : f64 [28] lsC h h2 := hf.tr f2 (fun _ y => y) (by decide)
      have eo' : ∀ x, x < 0 ∨ 985 ≤ x → h2 66 x = h 66 x := fun x hx => by rw [f2.1.at 66 x (by decide)]; exact eo x hx
      refine wq_bipush (n := -2) (q := 68) rfl rfl rfl ?_
      refine wq_icmp_eq (tgt := 73) (q := 71) rfl rfl rfl (fun c68 => ?_) (fun c68 => ?_)
      · skip
        refine wq_iconst (n := 0) (q := 74) rfl rfl rfl ?_
        refine wq_istore (i := 4) (q := 76) rfl rfl (Nat.le_of_ble_eq_true rfl) rfl ?_
        have hS := hV.2.1
        exact Mo_causesE N0 N1 a b t h r (h2 66) hV hb ht hM2.2 c0 (by omega) _ 0 h2 rfl (by omega) (by omega) f3 (fun x => Or.inr ⟨fun e e0 e1 => by omega, rfl⟩) eo'
      · skip
        refine wq_iconst (n := 1) (q := 72) rfl rfl rfl ?_
        refine wq_iret rfl rfl (Nat.le_refl _) (Nat.le_refl _) ⟨rfl, f3, ?_, eo'⟩
        unfold cr
        rw [if_neg c0, if_pos (by omega)]
    · skip
      refine wq_aload_n (kk := 0) (q := 29) rfl rfl rfl ?_
      refine wq_getF (q := 32) f_Mo_17 rfl rfl (Nat.le_of_ble_eq_true rfl) rfl rfl rfl ?_
      refine wq_iload (i := 4) (q := 34) rfl rfl rfl ?_
      refine wq_iconst (n := 5) (q := 35) rfl rfl rfl ?_
      refine wq_callS (q := 38) (m' := m_Mo_at) (R' := rm 1) (As := [_, _]) rfl rfl l_Mo_209 sm_Mo_at rfl (Nat.le_of_ble_eq_true rfl) (Nat.le_of_ble_eq_true rfl) (Nat.le_refl _) (Nat.le_refl _) (Nat.le_of_ble_eq_true rfl) (Mo_at_ok d 5 h1 r (by omega) (by omega)) rfl ?_
      rintro rv h1 r ⟨rfl, rfl, rfl⟩ -
      refine wq_iconst (n := 0) (q := 39) rfl rfl rfl ?_
      refine wq_iast (q := 40) rfl (Or.inl ⟨rfl, Nat.le_of_ble_eq_true rfl⟩) rfl rfl (by first | omega | (simp [hup]; omega)) (by first | omega | (simp [hup]; omega)) ?_
      refine wq_aload_n (kk := 0) (q := 41) rfl rfl rfl ?_
      refine wq_getF (q := 44) f_Mo_17 rfl rfl (Nat.le_of_ble_eq_true rfl) rfl rfl rfl ?_
      refine wq_iload (i := 4) (q := 46) rfl rfl rfl ?_
      refine wq_bipush (n := 6) (q := 48) rfl rfl rfl ?_
      refine wq_callS (q := 51) (m' := m_Mo_at) (R' := rm 1) (As := [_, _]) rfl rfl l_Mo_209 sm_Mo_at rfl (Nat.le_of_ble_eq_true rfl) (Nat.le_of_ble_eq_true rfl) (Nat.le_refl _) (Nat.le_refl _) (Nat.le_of_ble_eq_true rfl) (Mo_at_ok d 6 _ r (by omega) (by omega)) rfl ?_
      rintro rv h2 r ⟨rfl, rfl, rfl⟩ -
      refine wq_iconst (n := 1) (q := 52) rfl rfl rfl ?_
      refine wq_iast (q := 53) rfl (Or.inl ⟨rfl, Nat.le_of_ble_eq_true rfl⟩) rfl rfl (by first | omega | (simp [hup]; omega)) (by first | omega | (simp [hup]; omega)) ?_
      refine wq_iinc (i := 4) (n := 1) (q := 56) rfl rfl rfl (Nat.le_of_ble_eq_true rfl) rfl (by first | omega | (simp [hup]; omega)) (by first | omega | (simp [hup]; omega)) ?_
      refine wq_goto (tgt := 17) rfl rfl ?_
      refine ih _ (by omega) (d + 1) _ rfl (by omega) (by omega) ((hf.uc (by decide) (by decide)).uc (by decide) (by decide)) (fun x => ?_) (fun x hx => ?_)
      · by_cases z1 : x = 25 + 8 * d + 6
        · subst z1; rw [hup_s]; exact Or.inl ⟨d, d0, by omega, Or.inr ⟨rfl, rfl⟩⟩
        · rw [hup_j z1]
          by_cases z2 : x = 25 + 8 * d + 5
          · subst z2; rw [hup_s]; exact Or.inl ⟨d, d0, by omega, Or.inl ⟨rfl, rfl⟩⟩
          · rw [hup_j z2]
            rcases hE x with ⟨e, e0, e1, z⟩ | ⟨z, w⟩
            · exact Or.inl ⟨e, e0, by omega, z⟩
            · refine Or.inr ⟨fun e e0 e1 => ?_, w⟩
              by_cases ee : e = d
              · subst ee; exact ⟨z2, z1⟩
              · exact z e e0 (by omega)
      · rw [hup_j (by omega), hup_j (by omega)]; exact eo x hx
set_option maxRecDepth 100000 in
set_option maxHeartbeats 1000000 in
theorem Mo_causes_ok (N0 N1 : mN) (a b t : Int) (h : mH) (r : mR) (hM : isM h N0) (hV : NV N1) (hb : 0 ≤ b ∧ b < nS N0) (hs : nS N1 = nS N0) (ht : isT t) (hA : asT (h 66) N1) : Meets true (rm 8) m_Mo_causes [vR 64, vI a, vI b, vI t] h r (caQ N0 N1 a b t h r) := by
  have hbb := bb_bd hM.1 (a := a) (b := b) (t := t) (by omega)
  have hn := hV.1
  refine ⟨ok_Mo_causes, Nat.le_of_ble_eq_true rfl, ?_⟩
  refine wq_aload_n (kk := 0) (q := 1) rfl rfl rfl ?_
  refine wq_iload_n (kk := 1) (q := 2) rfl rfl rfl ?_
  refine wq_iload_n (kk := 2) (q := 3) rfl rfl rfl ?_
  refine wq_iload_n (kk := 3) (q := 4) rfl rfl rfl ?_
  refine wq_callV (q := 7) (m' := m_Mo_best) (R' := rm 7) (As := [_, _, _]) rfl rfl l_Mo_311 vm_Mo_best rfl rfl rfl (Or.inl ⟨rfl, Nat.le_of_ble_eq_true rfl⟩) (Nat.le_of_ble_eq_true rfl) (Nat.le_of_ble_eq_true rfl) (Nat.le_refl _) (Nat.le_refl _) (Nat.le_of_ble_eq_true rfl) (Mo_best_ok N0 a b t h r hM hb (by omega)) rfl ?_
  rintro rv h2 r ⟨rfl, f2, rfl, -⟩ -
  have f3 : f64 [28] lsC h h2 := f2.mono (fun _ y => y) (by decide)
  have e66 : h2 66 = h 66 := f2.1 66 (by decide)
  refine wq_bipush (n := -2) (q := 9) rfl rfl rfl ?_
  refine wq_icmp_eq (tgt := 14) (q := 12) rfl rfl rfl (fun c9 => ?_) (fun c9 => ?_)
  · skip
    refine wq_iconst (n := 0) (q := 15) rfl rfl rfl ?_
    refine wq_istore (i := 4) (q := 17) rfl rfl (Nat.le_of_ble_eq_true rfl) rfl ?_
    exact Mo_causesL N0 N1 a b t h r (h 66) hV (by omega) ht hA (by omega) _ 0 h2 rfl (by omega) (by omega) f3 (fun x => Or.inr ⟨fun e e0 e1 => by omega, by rw [e66]⟩) (fun x _ => by rw [e66])
  · skip
    refine wq_iconst (n := 0) (q := 13) rfl rfl rfl ?_
    refine wq_iret rfl rfl (Nat.le_refl _) (Nat.le_refl _) ⟨rfl, f3, ?_, fun x _ => by rw [e66]⟩
    unfold cr
    rw [if_pos (by omega)]
set_option maxRecDepth 100000 in
set_option maxHeartbeats 1000000 in
theorem Mo_whyA (a b t i g g2 : Int) (N N1 : mN) (h : mH) (r : mR) (hI : mI h N) (hV1 : NV N1) (hs : nS N1 = nS N) (hA : asT (h 66) N1) (hg : g = bI ((0 ≤ a ∧ a < nS N) ∧ 0 ≤ b ∧ b < nS N)) (hg2 : g2 = bI (isT t ∧ 0 ≤ i)) : WP (true, rm 9) m_Mo_why (rt m_Mo_why (rm 9) (rqQ h r (Ans (kP (nS N) a b (bI (isT t ∧ 0 ≤ i))) (fun v tr => tr = 0 ∧ v = Wy N N1 a b t i)))) 43 [some (vR 64), some (vI a), some (vI b), some (vI t), some (vI i), none] [vI g2, vI g, vR 64] h r (0, 0) := by
  subst hg
  subst hg2
  refine wq_callS (q := 46) (m' := m_Mo_unless_) (R' := rm 1) (As := [_, _]) rfl rfl l_Mo_304 sm_Mo_unless_ rfl (Nat.le_of_ble_eq_true rfl) (Nat.le_of_ble_eq_true rfl) (Nat.le_refl _) (Nat.le_refl _) (Nat.le_of_ble_eq_true rfl) (Mo_unless2_ok _ _ h r) rfl ?_
  rintro rv h r ⟨rfl, rfl, rfl⟩ -
  have ek : (if bI ((0 ≤ a ∧ a < nS N) ∧ 0 ≤ b ∧ b < nS N) = 0 then 1 else if bI (isT t ∧ 0 ≤ i) = 0 then 2 else 0) = kP (nS N) a b (bI (isT t ∧ 0 ≤ i)) := by
    unfold kP
    by_cases w2 : (0 ≤ a ∧ a < nS N) ∧ 0 ≤ b ∧ b < nS N
    · rw [bI_t w2, if_neg (show ¬ (1 : Int) = 0 by decide), if_pos w2]
    · rw [bI_f w2, if_pos rfl, if_neg w2]
  rw [ek]
  generalize hk : kP (nS N) a b (bI (isT t ∧ 0 ≤ i)) = k
  refine wq_callV (q := 49) (m' := m_Mo_isRefused) (R' := rm 1) (As := [_]) rfl rfl l_Mo_228 vm_Mo_isRefused rfl rfl rfl (Or.inl ⟨rfl, Nat.le_of_ble_eq_true rfl⟩) (Nat.le_of_ble_eq_true rfl) (Nat.le_of_ble_eq_true rfl) (Nat.le_refl _) (Nat.le_refl _) (Nat.le_of_ble_eq_true rfl) (Mo_isRefused_ok k h r) rfl ?_
  rintro rv h1 r ⟨rfl, rfl, rfl⟩ -
  have f1 := x_ref_f (S := qF) (C := qK) (h := h) (k := k) (by decide) (by decide) (by decide) (by decide)
  have I1 := mI_f hI f1 (by decide) (by decide)
  refine wq_cif_eq (tgt := 54) (q := 52) rfl rfl rfl (fun c49 => ?_) (fun c49 => ?_)
  · skip
    have k0 : k = 0 := by simpa using c49
    subst k0
    have hab := kP_0 hk
    have ht := bI_ne hab.2
    refine wq_aload_n (kk := 0) (q := 55) rfl rfl rfl ?_
    refine wq_callV (q := 58) (m' := m_Mo_laysAside) (R' := rm 2) (As := []) rfl rfl l_Mo_342 vm_Mo_laysAside rfl rfl rfl (Or.inl ⟨rfl, Nat.le_of_ble_eq_true rfl⟩) (Nat.le_of_ble_eq_true rfl) (Nat.le_of_ble_eq_true rfl) (Nat.le_refl _) (Nat.le_refl _) (Nat.le_of_ble_eq_true rfl) (Mo_laysAside_ok _ r) rfl ?_
    rintro rv h3 r ⟨rfl, rfl, hc⟩ -
    have f4 : f64 qF qK h h3 := f1.tr (S' := []) (C' := [68]) ⟨hc.1, fun j _ => hc.1.at 64 j (by decide)⟩ (by decide) (by decide)
    have hM3 := isM_f I1.1 hc.1 (by decide)
    have e1' : h3 64 1 = 0 := by rw [hc.1.at 64 1 (by decide)]; exact x_ref_1
    have e66' : h3 66 = h 66 := f4.1 66 (by decide)
    refine wq_aload_n (kk := 0) (q := 59) rfl rfl rfl ?_
    refine wq_iload_n (kk := 1) (q := 60) rfl rfl rfl ?_
    refine wq_iload_n (kk := 2) (q := 61) rfl rfl rfl ?_
    refine wq_iload_n (kk := 3) (q := 62) rfl rfl rfl ?_
    refine wq_callV (q := 65) (m' := m_Mo_causes) (R' := rm 8) (As := [_, _, _]) rfl rfl l_Mo_375 vm_Mo_causes rfl rfl rfl (Or.inl ⟨rfl, Nat.le_of_ble_eq_true rfl⟩) (Nat.le_of_ble_eq_true rfl) (Nat.le_of_ble_eq_true rfl) (Nat.le_refl _) (Nat.le_refl _) (Nat.le_of_ble_eq_true rfl) (Mo_causes_ok N N1 a b t h3 r hM3 hV1 hab.1.2 hs ht.1 (by rw [e66']; exact hA)) rfl ?_
    rintro rv h4 r ⟨rfl, f5, rfl, eo⟩ -
    have hcb : 0 ≤ cr N N1 a b t ∧ cr N N1 a b t ≤ 4 := by
      unfold cr
      split
      · omega
      · split
        · omega
        · split
          · omega
          · split <;> omega
    refine wq_istore (i := 5) (q := 67) rfl rfl (Nat.le_of_ble_eq_true rfl) rfl ?_
    refine wq_aload_n (kk := 0) (q := 68) rfl rfl rfl ?_
    refine wq_callV (q := 71) (m' := m_Mo_takesBack) (R' := rm 2) (As := []) rfl rfl l_Mo_348 vm_Mo_takesBack rfl rfl rfl (Or.inl ⟨rfl, Nat.le_of_ble_eq_true rfl⟩) (Nat.le_of_ble_eq_true rfl) (Nat.le_of_ble_eq_true rfl) (Nat.le_refl _) (Nat.le_refl _) (Nat.le_of_ble_eq_true rfl) (Mo_takesBack_ok h4 r) rfl ?_
    rintro rv h5 r ⟨rfl, rfl, hc2⟩ -
    have e66 : h5 66 = h 66 := by
      have : h5 66 = x_ref h 0 66 := cpd_back hc (f5.1 68 (by decide)) (fun x hx => by rw [eo x hx, e66']; rfl) hc2
      rw [this]; rfl
    have f6 : f64 qF qL h h5 := ((f4.mono (fun _ y => y) (fun _ y => List.mem_cons_of_mem _ y)).tr f5 (by decide) (by decide)).tr (S' := []) (C' := [66]) ⟨hc2.1, fun j _ => hc2.1.at 64 j (by decide)⟩ (by decide) (by decide)
    have e1 : h5 64 1 = 0 := by rw [hc2.1.at 64 1 (by decide), f5.2 1 (by decide)]; exact e1'
    refine wq_iload (i := 4) (q := 73) rfl rfl rfl ?_
    refine wq_iload (i := 5) (q := 75) rfl rfl rfl ?_
    refine wq_icmp_ge (tgt := 85) (q := 78) rfl rfl rfl (fun c75 => ?_) (fun c75 => ?_)
    · skip
      refine wq_iconst (n := 0) (q := 86) rfl rfl rfl ?_
      refine wq_iret rfl rfl (Nat.le_refl _) (Nat.le_refl _) ⟨_, rfl, rfl, Or.inr ⟨rfl, e1, ?_⟩, by omega, f64_66 f6 e66⟩
      unfold Wy
      first | exact (if_pos (by omega)).symm | exact (if_neg (by omega)).symm
    · skip
      refine wq_iload (i := 4) (q := 80) rfl rfl rfl ?_
      refine wq_iconst (n := 1) (q := 81) rfl rfl rfl ?_
      refine wq_iadd (q := 82) rfl rfl (by first | omega | (simp [hup]; omega)) (by first | omega | (simp [hup]; omega)) ?_
      refine wq_goto (tgt := 86) rfl rfl ?_
      refine wq_iret rfl rfl (Nat.le_refl _) (Nat.le_refl _) ⟨_, rfl, rfl, Or.inr ⟨rfl, e1, ?_⟩, by omega, f64_66 f6 e66⟩
      unfold Wy
      first | exact (if_pos (by omega)).symm | exact (if_neg (by omega)).symm
  · skip
    refine wq_iconst (n := -1) (q := 53) rfl rfl rfl ?_
    exact wq_iret rfl rfl (Nat.le_refl _) (Nat.le_refl _) ⟨_, rfl, rfl, Or.inl ⟨c49, rfl, x_ref_1⟩, by rw [x_ref_1]; have := kP_b (n := nS N) (a := a) (b := b) (g := bI (isT t ∧ 0 ≤ i)); omega, f1⟩
set_option maxRecDepth 100000 in
set_option maxHeartbeats 1000000 in
theorem Mo_why_ok (a b t i : Int) (N N1 : mN) (h : mH) (r : mR) (hI : mI h N) (hV1 : NV N1) (hs : nS N1 = nS N) (hA : asT (h 66) N1) : Meets true (rm 9) m_Mo_why [vR 64, vI a, vI b, vI t, vI i] h r (rqQ h r (Ans (kP (nS N) a b (bI (isT t ∧ 0 ≤ i))) (fun v tr => tr = 0 ∧ v = Wy N N1 a b t i))) := by
  have e1 := hI.1.2.2.1
  have hS := hI.1.1.2.1
  have hT := hI.2
  refine ⟨ok_Mo_why, Nat.le_of_ble_eq_true rfl, ?_⟩
  refine wq_aload_n (kk := 0) (q := 1) rfl rfl rfl ?_
  refine wq_aload_n (kk := 0) (q := 2) rfl rfl rfl ?_
  refine wq_iload_n (kk := 1) (q := 3) rfl rfl rfl ?_
  refine wq_callV (q := 6) (m' := m_Mo_isSpot) (R' := rm 2) (As := [_]) rfl rfl l_Mo_263 vm_Mo_isSpot rfl rfl rfl (Or.inl ⟨rfl, Nat.le_of_ble_eq_true rfl⟩) (Nat.le_of_ble_eq_true rfl) (Nat.le_of_ble_eq_true rfl) (Nat.le_refl _) (Nat.le_refl _) (Nat.le_of_ble_eq_true rfl) (Mo_isSpot_ok a h r (by omega) (by omega) (by omega)) rfl ?_
  rintro rv h r ⟨rfl, rfl, rfl⟩ -
  refine wq_cif_eq (tgt := 21) (q := 9) rfl rfl rfl (fun c6 => ?_) (fun c6 => ?_)
  · skip
    refine wq_iconst (n := 0) (q := 22) rfl rfl rfl ?_
    refine wq_iload_n (kk := 3) (q := 23) rfl rfl rfl ?_
    refine wq_iconst (n := 0) (q := 24) rfl rfl rfl ?_
    refine wq_sipush (n := 1999) (q := 27) rfl rfl rfl ?_
    refine wq_callS (q := 30) (m' := m_Mo_in) (R' := rm 1) (As := [_, _, _]) rfl rfl l_Mo_107 sm_Mo_in rfl (Nat.le_of_ble_eq_true rfl) (Nat.le_of_ble_eq_true rfl) (Nat.le_refl _) (Nat.le_refl _) (Nat.le_of_ble_eq_true rfl) (Mo_in_ok _ _ _ h r) rfl ?_
    rintro rv h r ⟨rfl, rfl, rfl⟩ -
    refine wq_cif_eq (tgt := 42) (q := 33) rfl rfl rfl (fun c30 => ?_) (fun c30 => ?_)
    · skip
      refine wq_iconst (n := 0) (q := 43) rfl rfl rfl ?_
      first
      | exact Mo_whyA a b t i 1 1 N N1 h r hI hV1 hs hA (bI_t (by omega)).symm (bI_t (by omega)).symm
      | exact Mo_whyA a b t i 1 0 N N1 h r hI hV1 hs hA (bI_t (by omega)).symm (bI_f (by omega)).symm
      | exact Mo_whyA a b t i 0 1 N N1 h r hI hV1 hs hA (bI_f (by omega)).symm (bI_t (by omega)).symm
      | exact Mo_whyA a b t i 0 0 N N1 h r hI hV1 hs hA (bI_f (by omega)).symm (bI_f (by omega)).symm
    · skip
      refine wq_iload (i := 4) (q := 35) rfl rfl rfl ?_
      refine wq_if_lt (tgt := 42) (q := 38) rfl rfl rfl (fun c35 => ?_) (fun c35 => ?_)
      · skip
        refine wq_iconst (n := 0) (q := 43) rfl rfl rfl ?_
        first
        | exact Mo_whyA a b t i 1 1 N N1 h r hI hV1 hs hA (bI_t (by omega)).symm (bI_t (by omega)).symm
        | exact Mo_whyA a b t i 1 0 N N1 h r hI hV1 hs hA (bI_t (by omega)).symm (bI_f (by omega)).symm
        | exact Mo_whyA a b t i 0 1 N N1 h r hI hV1 hs hA (bI_f (by omega)).symm (bI_t (by omega)).symm
        | exact Mo_whyA a b t i 0 0 N N1 h r hI hV1 hs hA (bI_f (by omega)).symm (bI_f (by omega)).symm
      · skip
        refine wq_iconst (n := 1) (q := 39) rfl rfl rfl ?_
        refine wq_goto (tgt := 43) rfl rfl ?_
        first
        | exact Mo_whyA a b t i 1 1 N N1 h r hI hV1 hs hA (bI_t (by omega)).symm (bI_t (by omega)).symm
        | exact Mo_whyA a b t i 1 0 N N1 h r hI hV1 hs hA (bI_t (by omega)).symm (bI_f (by omega)).symm
        | exact Mo_whyA a b t i 0 1 N N1 h r hI hV1 hs hA (bI_f (by omega)).symm (bI_t (by omega)).symm
        | exact Mo_whyA a b t i 0 0 N N1 h r hI hV1 hs hA (bI_f (by omega)).symm (bI_f (by omega)).symm
  · skip
    refine wq_aload_n (kk := 0) (q := 10) rfl rfl rfl ?_
    refine wq_iload_n (kk := 2) (q := 11) rfl rfl rfl ?_
    refine wq_callV (q := 14) (m' := m_Mo_isSpot) (R' := rm 2) (As := [_]) rfl rfl l_Mo_263 vm_Mo_isSpot rfl rfl rfl (Or.inl ⟨rfl, Nat.le_of_ble_eq_true rfl⟩) (Nat.le_of_ble_eq_true rfl) (Nat.le_of_ble_eq_true rfl) (Nat.le_refl _) (Nat.le_refl _) (Nat.le_of_ble_eq_true rfl) (Mo_isSpot_ok b h r (by omega) (by omega) (by omega)) rfl ?_
    rintro rv h r ⟨rfl, rfl, rfl⟩ -
    refine wq_cif_eq (tgt := 21) (q := 17) rfl rfl rfl (fun c14 => ?_) (fun c14 => ?_)
    · skip
      refine wq_iconst (n := 0) (q := 22) rfl rfl rfl ?_
      refine wq_iload_n (kk := 3) (q := 23) rfl rfl rfl ?_
      refine wq_iconst (n := 0) (q := 24) rfl rfl rfl ?_
      refine wq_sipush (n := 1999) (q := 27) rfl rfl rfl ?_
      refine wq_callS (q := 30) (m' := m_Mo_in) (R' := rm 1) (As := [_, _, _]) rfl rfl l_Mo_107 sm_Mo_in rfl (Nat.le_of_ble_eq_true rfl) (Nat.le_of_ble_eq_true rfl) (Nat.le_refl _) (Nat.le_refl _) (Nat.le_of_ble_eq_true rfl) (Mo_in_ok _ _ _ h r) rfl ?_
      rintro rv h r ⟨rfl, rfl, rfl⟩ -
      refine wq_cif_eq (tgt := 42) (q := 33) rfl rfl rfl (fun c30 => ?_) (fun c30 => ?_)
      · skip
        refine wq_iconst (n := 0) (q := 43) rfl rfl rfl ?_
        first
        | exact Mo_whyA a b t i 1 1 N N1 h r hI hV1 hs hA (bI_t (by omega)).symm (bI_t (by omega)).symm
        | exact Mo_whyA a b t i 1 0 N N1 h r hI hV1 hs hA (bI_t (by omega)).symm (bI_f (by omega)).symm
        | exact Mo_whyA a b t i 0 1 N N1 h r hI hV1 hs hA (bI_f (by omega)).symm (bI_t (by omega)).symm
        | exact Mo_whyA a b t i 0 0 N N1 h r hI hV1 hs hA (bI_f (by omega)).symm (bI_f (by omega)).symm
      · skip
        refine wq_iload (i := 4) (q := 35) rfl rfl rfl ?_
        refine wq_if_lt (tgt := 42) (q := 38) rfl rfl rfl (fun c35 => ?_) (fun c35 => ?_)
        · skip
          refine wq_iconst (n := 0) (q := 43) rfl rfl rfl ?_
          first
          | exact Mo_whyA a b t i 1 1 N N1 h r hI hV1 hs hA (bI_t (by omega)).symm (bI_t (by omega)).symm
          | exact Mo_whyA a b t i 1 0 N N1 h r hI hV1 hs hA (bI_t (by omega)).symm (bI_f (by omega)).symm
          | exact Mo_whyA a b t i 0 1 N N1 h r hI hV1 hs hA (bI_f (by omega)).symm (bI_t (by omega)).symm
          | exact Mo_whyA a b t i 0 0 N N1 h r hI hV1 hs hA (bI_f (by omega)).symm (bI_f (by omega)).symm
        · skip
          refine wq_iconst (n := 1) (q := 39) rfl rfl rfl ?_
          refine wq_goto (tgt := 43) rfl rfl ?_
          first
          | exact Mo_whyA a b t i 1 1 N N1 h r hI hV1 hs hA (bI_t (by omega)).symm (bI_t (by omega)).symm
          | exact Mo_whyA a b t i 1 0 N N1 h r hI hV1 hs hA (bI_t (by omega)).symm (bI_f (by omega)).symm
          | exact Mo_whyA a b t i 0 1 N N1 h r hI hV1 hs hA (bI_f (by omega)).symm (bI_t (by omega)).symm
          | exact Mo_whyA a b t i 0 0 N N1 h r hI hV1 hs hA (bI_f (by omega)).symm (bI_f (by omega)).symm
    · skip
      refine wq_iconst (n := 1) (q := 18) rfl rfl rfl ?_
      refine wq_goto (tgt := 22) rfl rfl ?_
      refine wq_iload_n (kk := 3) (q := 23) rfl rfl rfl ?_
      refine wq_iconst (n := 0) (q := 24) rfl rfl rfl ?_
      refine wq_sipush (n := 1999) (q := 27) rfl rfl rfl ?_
      refine wq_callS (q := 30) (m' := m_Mo_in) (R' := rm 1) (As := [_, _, _]) rfl rfl l_Mo_107 sm_Mo_in rfl (Nat.le_of_ble_eq_true rfl) (Nat.le_of_ble_eq_true rfl) (Nat.le_refl _) (Nat.le_refl _) (Nat.le_of_ble_eq_true rfl) (Mo_in_ok _ _ _ h r) rfl ?_
      rintro rv h r ⟨rfl, rfl, rfl⟩ -
      refine wq_cif_eq (tgt := 42) (q := 33) rfl rfl rfl (fun c30 => ?_) (fun c30 => ?_)
      · skip
        refine wq_iconst (n := 0) (q := 43) rfl rfl rfl ?_
        first
        | exact Mo_whyA a b t i 1 1 N N1 h r hI hV1 hs hA (bI_t (by omega)).symm (bI_t (by omega)).symm
        | exact Mo_whyA a b t i 1 0 N N1 h r hI hV1 hs hA (bI_t (by omega)).symm (bI_f (by omega)).symm
        | exact Mo_whyA a b t i 0 1 N N1 h r hI hV1 hs hA (bI_f (by omega)).symm (bI_t (by omega)).symm
        | exact Mo_whyA a b t i 0 0 N N1 h r hI hV1 hs hA (bI_f (by omega)).symm (bI_f (by omega)).symm
      · skip
        refine wq_iload (i := 4) (q := 35) rfl rfl rfl ?_
        refine wq_if_lt (tgt := 42) (q := 38) rfl rfl rfl (fun c35 => ?_) (fun c35 => ?_)
        · skip
          refine wq_iconst (n := 0) (q := 43) rfl rfl rfl ?_
          first
          | exact Mo_whyA a b t i 1 1 N N1 h r hI hV1 hs hA (bI_t (by omega)).symm (bI_t (by omega)).symm
          | exact Mo_whyA a b t i 1 0 N N1 h r hI hV1 hs hA (bI_t (by omega)).symm (bI_f (by omega)).symm
          | exact Mo_whyA a b t i 0 1 N N1 h r hI hV1 hs hA (bI_f (by omega)).symm (bI_t (by omega)).symm
          | exact Mo_whyA a b t i 0 0 N N1 h r hI hV1 hs hA (bI_f (by omega)).symm (bI_f (by omega)).symm
        · skip
          refine wq_iconst (n := 1) (q := 39) rfl rfl rfl ?_
          refine wq_goto (tgt := 43) rfl rfl ?_
          first
          | exact Mo_whyA a b t i 1 1 N N1 h r hI hV1 hs hA (bI_t (by omega)).symm (bI_t (by omega)).symm
          | exact Mo_whyA a b t i 1 0 N N1 h r hI hV1 hs hA (bI_t (by omega)).symm (bI_f (by omega)).symm
          | exact Mo_whyA a b t i 0 1 N N1 h r hI hV1 hs hA (bI_f (by omega)).symm (bI_t (by omega)).symm
          | exact Mo_whyA a b t i 0 0 N N1 h r hI hV1 hs hA (bI_f (by omega)).symm (bI_f (by omega)).symm

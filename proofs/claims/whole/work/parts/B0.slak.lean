/-! LinkTimesModel: copies, slack, why -/
/-- a row is copied -/
def cpd (F : Nat) (f : Int) (T : Nat) (t : Int) (h h1 : mH) : Prop := fr [T] h h1 ∧ (∀ k, 0 ≤ k → k < 985 → h1 T (t + k) = h F (f + k)) ∧ ∀ x, x < t ∨ t + 985 ≤ x → h1 T x = h T x
def cpP (F : Nat) (f : Int) (T : Nat) (t : Int) : Prop := (F = 66 ∧ T = 68 ∧ f = 0 ∧ t = 0) ∨ (F = 68 ∧ T = 66 ∧ f = 0 ∧ t = 0) ∨ (F = 67 ∧ T = 66 ∧ f = 0 ∧ t = 0) ∨ (F = 66 ∧ T = 69 ∧ f = 0 ∧ 0 ≤ t ∧ t ≤ 8865) ∨ (F = 69 ∧ T = 66 ∧ 0 ≤ f ∧ f ≤ 8865 ∧ t = 0)
set_option maxRecDepth 100000 in
set_option maxHeartbeats 1000000 in
theorem Mo_copiesL (F : Nat) (f : Int) (T : Nat) (t : Int) (hc : cpP F f T t) (h : mH) (r : mR) : ∀ (M : Nat) (i : Int) (h1 : mH), (985 - i).toNat = M → 0 ≤ i → i ≤ 985 → fr [T] h h1 → (∀ k, 0 ≤ k → k < i → h1 T (t + k) = h F (f + k)) → (∀ x, x < t ∨ t + 985 ≤ x → h1 T x = h T x) → WP (true, rm 1) m_Mo_copies (rt m_Mo_copies (rm 1) (fun rv h2 r2 => rv = none ∧ r2 = r ∧ cpd F f T t h h2)) 3 [some (vR F), some (vI f), some (vR T), some (vI t), some (vI i)] [] h1 r (0, 0) := by
  intro M
  induction M using Nat.strongRecOn with
  | ind M ih =>
    intro i h1 hN i0 i1 hf hx hy
    rcases hc with ⟨rfl, rfl, rfl, rfl⟩ | ⟨rfl, rfl, rfl, rfl⟩ | ⟨rfl, rfl, rfl, rfl⟩ | ⟨rfl, rfl, rfl, t0, t1⟩ | ⟨rfl, rfl, f0, f1, rfl⟩
    · skip
      refine wq_iload (i := 4) (q := 5) rfl rfl rfl ?_
      refine wq_sipush (n := 985) (q := 8) rfl rfl rfl ?_
      refine wq_icmp_ge (tgt := 29) (q := 11) rfl rfl rfl (fun c8 => ?_) (fun c8 => ?_)
      · skip
        refine wq_vret rfl rfl (Nat.le_refl _) (Nat.le_refl _) ⟨rfl, rfl, hf, fun k k0 k1 => hx k k0 (by omega), hy⟩
      · skip
        refine wq_aload_n (kk := 2) (q := 12) rfl rfl rfl ?_
        refine wq_iload_n (kk := 3) (q := 13) rfl rfl rfl ?_
        refine wq_iload (i := 4) (q := 15) rfl rfl rfl ?_
        refine wq_iadd (q := 16) rfl rfl (by first | omega | (simp [hup]; omega)) (by first | omega | (simp [hup]; omega)) ?_
        refine wq_aload_n (kk := 0) (q := 17) rfl rfl rfl ?_
        refine wq_iload_n (kk := 1) (q := 18) rfl rfl rfl ?_
        refine wq_iload (i := 4) (q := 20) rfl rfl rfl ?_
        refine wq_iadd (q := 21) rfl rfl (by first | omega | (simp [hup]; omega)) (by first | omega | (simp [hup]; omega)) ?_
        refine wq_iald (q := 22) rfl (Or.inl ⟨rfl, Nat.le_of_ble_eq_true rfl⟩) rfl rfl (by first | omega | (simp [hup]; omega)) (by first | omega | (simp [hup]; omega)) ?_
        refine wq_iast (q := 23) rfl (Or.inl ⟨rfl, Nat.le_of_ble_eq_true rfl⟩) rfl rfl (by first | omega | (simp [hup]; omega)) (by first | omega | (simp [hup]; omega)) ?_
        refine wq_iinc (i := 4) (n := 1) (q := 26) rfl rfl rfl (Nat.le_of_ble_eq_true rfl) rfl (by first | omega | (simp [hup]; omega)) (by first | omega | (simp [hup]; omega)) ?_
        refine wq_goto (tgt := 3) rfl rfl ?_
        refine ih _ (by omega) (i + 1) _ rfl (by omega) (by omega) (hf.up (by decide)) (fun k k0 k1 => ?_) (fun x hx' => ?_)
        · by_cases e : k = i
          · subst e; rw [hup_s]; exact hf.at _ _ (by decide)
          · rw [hup_j (by omega)]; exact hx k k0 (by omega)
        · rw [hup_j (by omega)]; exact hy x hx'
    · skip
      refine wq_iload (i := 4) (q := 5) rfl rfl rfl ?_
      refine wq_sipush (n := 985) (q := 8) rfl rfl rfl ?_
      refine wq_icmp_ge (tgt := 29) (q := 11) rfl rfl rfl (fun c8 => ?_) (fun c8 => ?_)
      · skip
        refine wq_vret rfl rfl (Nat.le_refl _) (Nat.le_refl _) ⟨rfl, rfl, hf, fun k k0 k1 => hx k k0 (by omega), hy⟩
      · skip
        refine wq_aload_n (kk := 2) (q := 12) rfl rfl rfl ?_
        refine wq_iload_n (kk := 3) (q := 13) rfl rfl rfl ?_
        refine wq_iload (i := 4) (q := 15) rfl rfl rfl ?_
        refine wq_iadd (q := 16) rfl rfl (by first | omega | (simp [hup]; omega)) (by first | omega | (simp [hup]; omega)) ?_
        refine wq_aload_n (kk := 0) (q := 17) rfl rfl rfl ?_
        refine wq_iload_n (kk := 1) (q := 18) rfl rfl rfl ?_
        refine wq_iload (i := 4) (q := 20) rfl rfl rfl ?_
        refine wq_iadd (q := 21) rfl rfl (by first | omega | (simp [hup]; omega)) (by first | omega | (simp [hup]; omega)) ?_
        refine wq_iald (q := 22) rfl (Or.inl ⟨rfl, Nat.le_of_ble_eq_true rfl⟩) rfl rfl (by first | omega | (simp [hup]; omega)) (by first | omega | (simp [hup]; omega)) ?_
        refine wq_iast (q := 23) rfl (Or.inl ⟨rfl, Nat.le_of_ble_eq_true rfl⟩) rfl rfl (by first | omega | (simp [hup]; omega)) (by first | omega | (simp [hup]; omega)) ?_
        refine wq_iinc (i := 4) (n := 1) (q := 26) rfl rfl rfl (Nat.le_of_ble_eq_true rfl) rfl (by first | omega | (simp [hup]; omega)) (by first | omega | (simp [hup]; omega)) ?_
        refine wq_goto (tgt := 3) rfl rfl ?_
        refine ih _ (by omega) (i + 1) _ rfl (by omega) (by omega) (hf.up (by decide)) (fun k k0 k1 => ?_) (fun x hx' => ?_)
        · by_cases e : k = i
          · subst e; rw [hup_s]; exact hf.at _ _ (by decide)
          · rw [hup_j (by omega)]; exact hx k k0 (by omega)
        · rw [hup_j (by omega)]; exact hy x hx'
    · skip
      refine wq_iload (i := 4) (q := 5) rfl rfl rfl ?_
      refine wq_sipush (n := 985) (q := 8) rfl rfl rfl ?_
      refine wq_icmp_ge (tgt := 29) (q := 11) rfl rfl rfl (fun c8 => ?_) (fun c8 => ?_)
      · skip
        refine wq_vret rfl rfl (Nat.le_refl _) (Nat.le_refl _) ⟨rfl, rfl, hf, fun k k0 k1 => hx k k0 (by omega), hy⟩
      · skip
        refine wq_aload_n (kk := 2) (q := 12) rfl rfl rfl ?_
        refine wq_iload_n (kk := 3) (q := 13) rfl rfl rfl ?_
        refine wq_iload (i := 4) (q := 15) rfl rfl rfl ?_
        refine wq_iadd (q := 16) rfl rfl (by first | omega | (simp [hup]; omega)) (by first | omega | (simp [hup]; omega)) ?_
        refine wq_aload_n (kk := 0) (q := 17) rfl rfl rfl ?_
        refine wq_iload_n (kk := 1) (q := 18) rfl rfl rfl ?_
        refine wq_iload (i := 4) (q := 20) rfl rfl rfl ?_
        refine wq_iadd (q := 21) rfl rfl (by first | omega | (simp [hup]; omega)) (by first | omega | (simp [hup]; omega)) ?_
        refine wq_iald (q := 22) rfl (Or.inl ⟨rfl, Nat.le_of_ble_eq_true rfl⟩) rfl rfl (by first | omega | (simp [hup]; omega)) (by first | omega | (simp [hup]; omega)) ?_
        refine wq_iast (q := 23) rfl (Or.inl ⟨rfl, Nat.le_of_ble_eq_true rfl⟩) rfl rfl (by first | omega | (simp [hup]; omega)) (by first | omega | (simp [hup]; omega)) ?_
        refine wq_iinc (i := 4) (n := 1) (q := 26) rfl rfl rfl (Nat.le_of_ble_eq_true rfl) rfl (by first | omega | (simp [hup]; omega)) (by first | omega | (simp [hup]; omega)) ?_
        refine wq_goto (tgt := 3) rfl rfl ?_
        refine ih _ (by omega) (i + 1) _ rfl (by omega) (by omega) (hf.up (by decide)) (fun k k0 k1 => ?_) (fun x hx' => ?_)
        · by_cases e : k = i
          · subst e; rw [hup_s]; exact hf.at _ _ (by decide)
          · rw [hup_j (by omega)]; exact hx k k0 (by omega)
        · rw [hup_j (by omega)]; exact hy x hx'
    · skip
      refine wq_iload (i := 4) (q := 5) rfl rfl rfl ?_
      refine wq_sipush (n := 985) (q := 8) rfl rfl rfl ?_
      refine wq_icmp_ge (tgt := 29) (q := 11) rfl rfl rfl (fun c8 => ?_) (fun c8 => ?_)
      · skip
        refine wq_vret rfl rfl (Nat.le_refl _) (Nat.le_refl _) ⟨rfl, rfl, hf, fun k k0 k1 => hx k k0 (by omega), hy⟩
      · skip
        refine wq_aload_n (kk := 2) (q := 12) rfl rfl rfl ?_
        refine wq_iload_n (kk := 3) (q := 13) rfl rfl rfl ?_
        refine wq_iload (i := 4) (q := 15) rfl rfl rfl ?_
        refine wq_iadd (q := 16) rfl rfl (by first | omega | (simp [hup]; omega)) (by first | omega | (simp [hup]; omega)) ?_
        refine wq_aload_n (kk := 0) (q := 17) rfl rfl rfl ?_
        refine wq_iload_n (kk := 1) (q := 18) rfl rfl rfl ?_
        refine wq_iload (i := 4) (q := 20) rfl rfl rfl ?_
        refine wq_iadd (q := 21) rfl rfl (by first | omega | (simp [hup]; omega)) (by first | omega | (simp [hup]; omega)) ?_
        refine wq_iald (q := 22) rfl (Or.inl ⟨rfl, Nat.le_of_ble_eq_true rfl⟩) rfl rfl (by first | omega | (simp [hup]; omega)) (by first | omega | (simp [hup]; omega)) ?_
        refine wq_iast (q := 23) rfl (Or.inl ⟨rfl, Nat.le_of_ble_eq_true rfl⟩) rfl rfl (by first | omega | (simp [hup]; omega)) (by first | omega | (simp [hup]; omega)) ?_
        refine wq_iinc (i := 4) (n := 1) (q := 26) rfl rfl rfl (Nat.le_of_ble_eq_true rfl) rfl (by first | omega | (simp [hup]; omega)) (by first | omega | (simp [hup]; omega)) ?_
        refine wq_goto (tgt := 3) rfl rfl ?_
        refine ih _ (by omega) (i + 1) _ rfl (by omega) (by omega) (hf.up (by decide)) (fun k k0 k1 => ?_) (fun x hx' => ?_)
        · by_cases e : k = i
          · subst e; rw [hup_s]; exact hf.at _ _ (by decide)
          · rw [hup_j (by omega)]; exact hx k k0 (by omega)
        · rw [hup_j (by omega)]; exact hy x hx'
    · skip
      refine wq_iload (i := 4) (q := 5) rfl rfl rfl ?_
      refine wq_sipush (n := 985) (q := 8) rfl rfl rfl ?_
      refine wq_icmp_ge (tgt := 29) (q := 11) rfl rfl rfl (fun c8 => ?_) (fun c8 => ?_)
      · skip
        refine wq_vret rfl rfl (Nat.le_refl _) (Nat.le_refl _) ⟨rfl, rfl, hf, fun k k0 k1 => hx k k0 (by omega), hy⟩
      · skip
        refine wq_aload_n (kk := 2) (q := 12) rfl rfl rfl ?_
        refine wq_iload_n (kk := 3) (q := 13) rfl rfl rfl ?_
        refine wq_iload (i := 4) (q := 15) rfl rfl rfl ?_
        refine wq_iadd (q := 16) rfl rfl (by first | omega | (simp [hup]; omega)) (by first | omega | (simp [hup]; omega)) ?_
        refine wq_aload_n (kk := 0) (q := 17) rfl rfl rfl ?_
        refine wq_iload_n (kk := 1) (q := 18) rfl rfl rfl ?_
        refine wq_iload (i := 4) (q := 20) rfl rfl rfl ?_
        refine wq_iadd (q := 21) rfl rfl (by first | omega | (simp [hup]; omega)) (by first | omega | (simp [hup]; omega)) ?_
        refine wq_iald (q := 22) rfl (Or.inl ⟨rfl, Nat.le_of_ble_eq_true rfl⟩) rfl rfl (by first | omega | (simp [hup]; omega)) (by first | omega | (simp [hup]; omega)) ?_
        refine wq_iast (q := 23) rfl (Or.inl ⟨rfl, Nat.le_of_ble_eq_true rfl⟩) rfl rfl (by first | omega | (simp [hup]; omega)) (by first | omega | (simp [hup]; omega)) ?_
        refine wq_iinc (i := 4) (n := 1) (q := 26) rfl rfl rfl (Nat.le_of_ble_eq_true rfl) rfl (by first | omega | (simp [hup]; omega)) (by first | omega | (simp [hup]; omega)) ?_
        refine wq_goto (tgt := 3) rfl rfl ?_
        refine ih _ (by omega) (i + 1) _ rfl (by omega) (by omega) (hf.up (by decide)) (fun k k0 k1 => ?_) (fun x hx' => ?_)
        · by_cases e : k = i
          · subst e; rw [hup_s]; exact hf.at _ _ (by decide)
          · rw [hup_j (by omega)]; exact hx k k0 (by omega)
        · rw [hup_j (by omega)]; exact hy x hx'
set_option maxRecDepth 100000 in
set_option maxHeartbeats 1000000 in
theorem Mo_copies_ok (F : Nat) (f : Int) (T : Nat) (t : Int) (hc : cpP F f T t) (h : mH) (r : mR) : Meets true (rm 1) m_Mo_copies [vR F, vI f, vR T, vI t] h r (fun rv h2 r2 => rv = none ∧ r2 = r ∧ cpd F f T t h h2) := by
  refine ⟨ok_Mo_copies, Nat.le_of_ble_eq_true rfl, ?_⟩
  refine wq_iconst (n := 0) (q := 1) rfl rfl rfl ?_
  refine wq_istore (i := 4) (q := 3) rfl rfl (Nat.le_of_ble_eq_true rfl) rfl ?_
  exact Mo_copiesL F f T t hc h r _ 0 h rfl (by omega) (by omega) fr.rf (fun k k0 k1 => by omega) (fun _ _ => rfl)
set_option maxRecDepth 100000 in
set_option maxHeartbeats 1000000 in
theorem Mo_laysAside_ok (h : mH) (r : mR) : Meets true (rm 2) m_Mo_laysAside [vR 64] h r (fun rv h2 r2 => rv = none ∧ r2 = r ∧ cpd 66 0 68 0 h h2) := by
  refine ⟨ok_Mo_laysAside, Nat.le_of_ble_eq_true rfl, ?_⟩
  refine wq_aload_n (kk := 0) (q := 1) rfl rfl rfl ?_
  refine wq_getF (q := 4) f_Mo_17 rfl rfl (Nat.le_of_ble_eq_true rfl) rfl rfl rfl ?_
  refine wq_iconst (n := 0) (q := 5) rfl rfl rfl ?_
  refine wq_aload_n (kk := 0) (q := 6) rfl rfl rfl ?_
  refine wq_getF (q := 9) f_Mo_23 rfl rfl (Nat.le_of_ble_eq_true rfl) rfl rfl rfl ?_
  refine wq_iconst (n := 0) (q := 10) rfl rfl rfl ?_
  refine wq_callS (q := 13) (m' := m_Mo_copies) (R' := rm 1) (As := [_, _, _, _]) rfl rfl l_Mo_240 sm_Mo_copies rfl (Nat.le_of_ble_eq_true rfl) (Nat.le_of_ble_eq_true rfl) (Nat.le_refl _) (Nat.le_refl _) (Nat.le_of_ble_eq_true rfl) (Mo_copies_ok 66 0 68 0 (by unfold cpP; omega) h r) rfl ?_
  rintro rv h1 r ⟨rfl, rfl, hc⟩ -
  exact wq_vret rfl rfl (Nat.le_refl _) (Nat.le_refl _) ⟨rfl, rfl, hc⟩
set_option maxRecDepth 100000 in
set_option maxHeartbeats 1000000 in
theorem Mo_takesBack_ok (h : mH) (r : mR) : Meets true (rm 2) m_Mo_takesBack [vR 64] h r (fun rv h2 r2 => rv = none ∧ r2 = r ∧ cpd 68 0 66 0 h h2) := by
  refine ⟨ok_Mo_takesBack, Nat.le_of_ble_eq_true rfl, ?_⟩
  refine wq_aload_n (kk := 0) (q := 1) rfl rfl rfl ?_
  refine wq_getF (q := 4) f_Mo_23 rfl rfl (Nat.le_of_ble_eq_true rfl) rfl rfl rfl ?_
  refine wq_iconst (n := 0) (q := 5) rfl rfl rfl ?_
  refine wq_aload_n (kk := 0) (q := 6) rfl rfl rfl ?_
  refine wq_getF (q := 9) f_Mo_17 rfl rfl (Nat.le_of_ble_eq_true rfl) rfl rfl rfl ?_
  refine wq_iconst (n := 0) (q := 10) rfl rfl rfl ?_
  refine wq_callS (q := 13) (m' := m_Mo_copies) (R' := rm 1) (As := [_, _, _, _]) rfl rfl l_Mo_240 sm_Mo_copies rfl (Nat.le_of_ble_eq_true rfl) (Nat.le_of_ble_eq_true rfl) (Nat.le_refl _) (Nat.le_refl _) (Nat.le_of_ble_eq_true rfl) (Mo_copies_ok 68 0 66 0 (by unfold cpP; omega) h r) rfl ?_
  rintro rv h1 r ⟨rfl, rfl, hc⟩ -
  exact wq_vret rfl rfl (Nat.le_refl _) (Nat.le_refl _) ⟨rfl, rfl, hc⟩
/-- the row that was laid aside comes back -/
theorem cpd_back {h h1 h2 h3 : mH} (c1 : cpd 66 0 68 0 h h1) (e68 : h2 68 = h1 68) (eo : ∀ x, x < 0 ∨ 985 ≤ x → h2 66 x = h 66 x) (c2 : cpd 68 0 66 0 h2 h3) : h3 66 = h 66 := by
  funext x
  by_cases z : 0 ≤ x ∧ x < 985
  · have a := c2.2.1 x z.1 z.2
    have b := c1.2.1 x z.1 z.2
    rw [show (0 : Int) + x = x by omega] at a b
    rw [a, e68, b]
  · rw [c2.2.2 x (by omega)]; exact eo x (by omega)
abbrev lsC : List Nat := [64, 66, 73, 74, 75, 76, 77]
abbrev qL : List Nat := 66 :: qK
theorem f64_66 {h h1 : mH} (f : f64 qF qL h h1) (e : h1 66 = h 66) : f64 qF qK h h1 := by
  refine ⟨fun c hc => ?_, f.2⟩
  by_cases z : c = 66
  · rw [z]; exact e
  · exact f.1 c (fun y => (List.mem_cons.mp y).elim z hc)
theorem rT_late {R R' : mF} {N : mN} {d : Int} (hR : rT R N) (hd : dp N d) (h1 : R' (25 + 8 * d + 5) = R (25 + 8 * d + 5) + 1) (h2 : ∀ x, x ≠ 25 + 8 * d + 5 → R' x = R x) (hS : nS N ≤ 10) : rT R' (nLate N d 1) := by
  have d0 := hd.1
  obtain ⟨a1, a2, a3, a4⟩ := hR
  refine ⟨?_, ?_, fun x hx => ?_, fun s s0 s1 => ?_⟩
  · rw [h2 4 (by omega)]; exact a1
  · rw [h2 1 (by omega)]; exact a2
  · have z := a3 x hx
    have x0 := hx.1
    rw [h2 (25 + 8 * x + 3) (by omega), h2 (25 + 8 * x + 4) (by omega), h2 (25 + 8 * x + 1) (by omega), h2 (25 + 8 * x + 2) (by omega), h2 (25 + 8 * x + 0) (by omega), h2 (25 + 8 * x + 6) (by omega)]
    have l1 : lv (nLate N d 1) x = if x = d then lv N x + 1 else lv N x := rfl
    have l2 : ar (nLate N d 1) x = if x = d then ar N x + 1 else ar N x := rfl
    rw [l1, l2]
    by_cases e : x = d
    · subst e
      rw [if_pos rfl, if_pos rfl, h1]
      exact ⟨by omega, by omega, z.2.2.1, z.2.2.2.1, z.2.2.2.2.1, z.2.2.2.2.2⟩
    · rw [if_neg e, if_neg e, h2 (25 + 8 * x + 5) (by omega)]
      exact z
  · have s1' : s < nS N := s1
    rw [h2 (5 + s) (by omega), h2 (15 + s) (by omega)]
    exact a4 s s0 s1
set_option maxRecDepth 100000 in
set_option maxHeartbeats 1000000 in
theorem Mo_slackL (N : mN) (a b t d D0 : Int) (h0 : mH) (h : mH) (r : mR) (hd : dp N d) (hb : 0 ≤ b ∧ b < nS N) (ht : isT t) (hs : sn N a t b ≠ 1000000) (hL : ∀ k, 0 ≤ k → k ≤ 99 → NV (nLate N d k)) (hD : 0 ≤ D0 ∧ D0 ≤ 99) (g0 : mH) (ha : cpd 66 0 68 0 g0 h) (eg : g0 66 = h0 66) (f0 : f64 qF qK h0 h) (P : Int → Int → Prop) (K : ∀ v, Sla N a b t d v → P v 0) : ∀ (M : Nat) (k w : Int) (h1 : mH) (x8 : Option mV), (100 - k - (1 - w)).toNat = M → 0 ≤ k → k ≤ 99 → (w = 1 ∨ w = 0) → (w = 1 → isM h1 (nLate N d k) ∧ h1 66 (25 + 8 * d + 5) = D0 + k) → (∀ j, 1 ≤ j → j ≤ k → sn (nLate N d j) a t b ≤ sn N a t b) → (w = 0 → k < 99 ∧ sn N a t b < sn (nLate N d (k + 1)) a t b) → f64 [28] lsC h h1 → (∀ x, x < 0 ∨ 985 ≤ x → h1 66 x = h0 66 x) → h1 64 1 = 0 → WP (true, rm 8) m_Mo_slack (rt m_Mo_slack (rm 8) (rqQ h0 r P)) 79 [some (vR 64), some (vI a), some (vI b), some (vI t), some (vI d), some (vI (bb N a t b)), some (vI k), some (vI w), x8] [] h1 r (0, 0) := by
  intro M
  induction M using Nat.strongRecOn with
  | ind M ih =>
    intro k w h1 x8 hN k0 k1 hw hM hj hw0 hf eo e1
    have hV : NV N := by
      have := hL 0 (by omega) (by omega)
      rw [nLate_0] at this
      exact this
    have hn := hV.1
    have hd0 := hd.1
    have hd1 := hd.2
    have hbb := bb_bd hV (a := a) (b := b) (t := t) (by omega)
    refine wq_iload (i := 6) (q := 81) rfl rfl rfl ?_
    refine wq_bipush (n := 99) (q := 83) rfl rfl rfl ?_
    refine wq_icmp_ge (tgt := 154) (q := 86) rfl rfl rfl (fun c83 => ?_) (fun c83 => ?_)
    · skip
      refine wq_aload_n (kk := 0) (q := 155) rfl rfl rfl ?_
      refine wq_callV (q := 158) (m' := m_Mo_takesBack) (R' := rm 2) (As := []) rfl rfl l_Mo_348 vm_Mo_takesBack rfl rfl rfl (Or.inl ⟨rfl, Nat.le_of_ble_eq_true rfl⟩) (Nat.le_of_ble_eq_true rfl) (Nat.le_of_ble_eq_true rfl) (Nat.le_refl _) (Nat.le_refl _) (Nat.le_of_ble_eq_true rfl) (Mo_takesBack_ok h1 r) rfl ?_
      rintro rv h2 r ⟨rfl, rfl, hc⟩ -
      have e66 : h2 66 = h0 66 := by rw [← eg]; exact cpd_back ha (hf.1 68 (by decide)) (fun x hx => by rw [eg]; exact eo x hx) hc
      have f4 : f64 qF qL h0 h2 := ((f0.mono (fun _ y => y) (fun _ y => List.mem_cons_of_mem _ y)).tr hf (by decide) (by decide)).tr (S' := []) (C' := [66]) ⟨hc.1, fun j _ => hc.1.at 64 j (by decide)⟩ (by decide) (by decide)
      have e1' : h2 64 1 = 0 := by rw [hc.1.at 64 1 (by decide)]; exact e1
      refine wq_iload (i := 6) (q := 160) rfl rfl rfl ?_
      refine wq_iret rfl rfl (Nat.le_refl _) (Nat.le_refl _) ⟨_, rfl, rfl, ?_, by omega, f64_66 f4 e66⟩
      rw [e1']
      refine K _ (Or.inr ⟨hs, ⟨k0, k1⟩, hj, ?_⟩)
      first | (left; omega) | exact Or.inr (hw0 (by omega)).2
    · skip
      refine wq_iload (i := 7) (q := 88) rfl rfl rfl ?_
      refine wq_if_eq (tgt := 154) (q := 91) rfl rfl rfl (fun c88 => ?_) (fun c88 => ?_)
      · skip
        refine wq_aload_n (kk := 0) (q := 155) rfl rfl rfl ?_
        refine wq_callV (q := 158) (m' := m_Mo_takesBack) (R' := rm 2) (As := []) rfl rfl l_Mo_348 vm_Mo_takesBack rfl rfl rfl (Or.inl ⟨rfl, Nat.le_of_ble_eq_true rfl⟩) (Nat.le_of_ble_eq_true rfl) (Nat.le_of_ble_eq_true rfl) (Nat.le_refl _) (Nat.le_refl _) (Nat.le_of_ble_eq_true rfl) (Mo_takesBack_ok h1 r) rfl ?_
        rintro rv h2 r ⟨rfl, rfl, hc⟩ -
        have e66 : h2 66 = h0 66 := by rw [← eg]; exact cpd_back ha (hf.1 68 (by decide)) (fun x hx => by rw [eg]; exact eo x hx) hc
        have f4 : f64 qF qL h0 h2 := ((f0.mono (fun _ y => y) (fun _ y => List.mem_cons_of_mem _ y)).tr hf (by decide) (by decide)).tr (S' := []) (C' := [66]) ⟨hc.1, fun j _ => hc.1.at 64 j (by decide)⟩ (by decide) (by decide)
        have e1' : h2 64 1 = 0 := by rw [hc.1.at 64 1 (by decide)]; exact e1
        refine wq_iload (i := 6) (q := 160) rfl rfl rfl ?_
        refine wq_iret rfl rfl (Nat.le_refl _) (Nat.le_refl _) ⟨_, rfl, rfl, ?_, by omega, f64_66 f4 e66⟩
        rw [e1']
        refine K _ (Or.inr ⟨hs, ⟨k0, k1⟩, hj, ?_⟩)
        first | (left; omega) | exact Or.inr (hw0 (by omega)).2
      · skip
        refine wq_aload_n (kk := 0) (q := 92) rfl rfl rfl ?_
        refine wq_getF (q := 95) f_Mo_17 rfl rfl (Nat.le_of_ble_eq_true rfl) rfl rfl rfl ?_
        refine wq_iload (i := 4) (q := 97) rfl rfl rfl ?_
        refine wq_iconst (n := 5) (q := 98) rfl rfl rfl ?_
        refine wq_callS (q := 101) (m' := m_Mo_at) (R' := rm 1) (As := [_, _]) rfl rfl l_Mo_209 sm_Mo_at rfl (Nat.le_of_ble_eq_true rfl) (Nat.le_of_ble_eq_true rfl) (Nat.le_refl _) (Nat.le_refl _) (Nat.le_of_ble_eq_true rfl) (Mo_at_ok d 5 h1 r (by omega) (by omega)) rfl ?_
        rintro rv h1 r ⟨rfl, rfl, rfl⟩ -
        have hw1 : w = 1 := by omega
        obtain ⟨hM1, h5⟩ := hM hw1
        have hVk := hL (k + 1) (by omega) (by omega)
        have hM' : isM (hup h1 66 (25 + 8 * d + 5) (h1 66 (25 + 8 * d + 5) + 1)) (nLate N d (k + 1)) := ⟨hVk, by rw [← nLate_s]; exact rT_late hM1.2 hd hup_s (fun x hx => hup_j hx) hV.2.1.2⟩
        have hbb' := bb_bd hVk (a := a) (b := b) (t := t) (by omega)
        refine wq_dup2 (q := 102) rfl rfl rfl rfl ?_
        refine wq_iald (q := 103) rfl (Or.inl ⟨rfl, Nat.le_of_ble_eq_true rfl⟩) rfl rfl (by first | omega | (simp [hup]; omega)) (by first | omega | (simp [hup]; omega)) ?_
        refine wq_iconst (n := 1) (q := 104) rfl rfl rfl ?_
        refine wq_iadd (q := 105) rfl rfl (by first | omega | (simp [hup]; omega)) (by first | omega | (simp [hup]; omega)) ?_
        refine wq_iast (q := 106) rfl (Or.inl ⟨rfl, Nat.le_of_ble_eq_true rfl⟩) rfl rfl (by first | omega | (simp [hup]; omega)) (by first | omega | (simp [hup]; omega)) ?_
        refine wq_aload_n (kk := 0) (q := 107) rfl rfl rfl ?_
        refine wq_iload_n (kk := 1) (q := 108) rfl rfl rfl ?_
        refine wq_iload_n (kk := 2) (q := 109) rfl rfl rfl ?_
        refine wq_iload_n (kk := 3) (q := 110) rfl rfl rfl ?_
        refine wq_callV (q := 113) (m' := m_Mo_best) (R' := rm 7) (As := [_, _, _]) rfl rfl l_Mo_311 vm_Mo_best rfl rfl rfl (Or.inl ⟨rfl, Nat.le_of_ble_eq_true rfl⟩) (Nat.le_of_ble_eq_true rfl) (Nat.le_of_ble_eq_true rfl) (Nat.le_refl _) (Nat.le_refl _) (Nat.le_of_ble_eq_true rfl) (Mo_best_ok (nLate N d (k + 1)) a b t _ r hM' hb (by omega)) rfl ?_
        rintro rv h2 r ⟨rfl, f2, rfl, -⟩ -
        have f3 : f64 [28] lsC h h2 := (hf.uc (c := 66) (k := 25 + 8 * d + 5) (v := h1 66 (25 + 8 * d + 5) + 1) (by decide) (by decide)).tr f2 (fun _ y => y) (by decide)
        have e1' : h2 64 1 = 0 := by rw [f2.2 1 (by decide), hup_i (by decide)]; exact e1
        have hM2 := isM_f hM' f2.1 (by decide)
        have e66 : ∀ x, h2 66 x = hup h1 66 (25 + 8 * d + 5) (h1 66 (25 + 8 * d + 5) + 1) 66 x := fun x => f2.1.at 66 x (by decide)
        have h5' : h2 66 (25 + 8 * d + 5) = D0 + (k + 1) := by rw [e66, hup_s]; omega
        have eo' : ∀ x, x < 0 ∨ 985 ≤ x → h2 66 x = h0 66 x := fun x hx => by rw [e66, hup_j (by omega)]; exact eo x hx
        refine wq_istore (i := 8) (q := 115) rfl rfl (Nat.le_of_ble_eq_true rfl) rfl ?_
        refine wq_iload (i := 8) (q := 117) rfl rfl rfl ?_
        refine wq_bipush (n := -2) (q := 119) rfl rfl rfl ?_
        refine wq_icmp_eq (tgt := 133) (q := 122) rfl rfl rfl (fun c119 => ?_) (fun c119 => ?_)
        · skip
          refine wq_iconst (n := 0) (q := 134) rfl rfl rfl ?_
          refine wq_istore (i := 7) (q := 136) rfl rfl (Nat.le_of_ble_eq_true rfl) rfl ?_
          refine wq_iload (i := 6) (q := 138) rfl rfl rfl ?_
          refine wq_iload (i := 7) (q := 140) rfl rfl rfl ?_
          refine wq_if_eq (tgt := 147) (q := 143) rfl rfl rfl (fun c140 => ?_) (fun c140 => ?_)
          · skip
            refine wq_iconst (n := 0) (q := 148) rfl rfl rfl ?_
            refine wq_iadd (q := 149) rfl rfl (by first | omega | (simp [hup]; omega)) (by first | omega | (simp [hup]; omega)) ?_
            refine wq_istore (i := 6) (q := 151) rfl rfl (Nat.le_of_ble_eq_true rfl) rfl ?_
            refine wq_goto (tgt := 79) rfl rfl ?_
            first
            | (exfalso; omega)
            | (refine ih _ (by omega) (k + 1) 1 h2 _ rfl (by omega) (by omega) (Or.inl rfl) (fun _ => ⟨hM2, h5'⟩) (fun j j0 j1 => ?_) (fun z => by omega) f3 eo' e1'
               by_cases e : j = k + 1
               · rw [e]; omega
               · exact hj j j0 (by omega))
            | (rw [show k + 0 = k by omega]
               exact ih _ (by omega) k 0 h2 _ rfl (by omega) (by omega) (Or.inr rfl) (fun z => by omega) hj (fun _ => ⟨by omega, by omega⟩) f3 eo' e1')
          · skip
            refine wq_iconst (n := 1) (q := 144) rfl rfl rfl ?_
            refine wq_goto (tgt := 148) rfl rfl ?_
            refine wq_iadd (q := 149) rfl rfl (by first | omega | (simp [hup]; omega)) (by first | omega | (simp [hup]; omega)) ?_
            refine wq_istore (i := 6) (q := 151) rfl rfl (Nat.le_of_ble_eq_true rfl) rfl ?_
            refine wq_goto (tgt := 79) rfl rfl ?_
            first
            | (exfalso; omega)
            | (refine ih _ (by omega) (k + 1) 1 h2 _ rfl (by omega) (by omega) (Or.inl rfl) (fun _ => ⟨hM2, h5'⟩) (fun j j0 j1 => ?_) (fun z => by omega) f3 eo' e1'
               by_cases e : j = k + 1
               · rw [e]; omega
               · exact hj j j0 (by omega))
            | (rw [show k + 0 = k by omega]
               exact ih _ (by omega) k 0 h2 _ rfl (by omega) (by omega) (Or.inr rfl) (fun z => by omega) hj (fun _ => ⟨by omega, by omega⟩) f3 eo' e1')
        · skip
          refine wq_iload (i := 8) (q := 124) rfl rfl rfl ?_
          refine wq_iload (i := 5) (q := 126) rfl rfl rfl ?_
          refine wq_icmp_gt (tgt := 133) (q := 129) rfl rfl rfl (fun c126 => ?_) (fun c126 => ?_)
          · skip
            refine wq_iconst (n := 0) (q := 134) rfl rfl rfl ?_
            refine wq_istore (i := 7) (q := 136) rfl rfl (Nat.le_of_ble_eq_true rfl) rfl ?_
            refine wq_iload (i := 6) (q := 138) rfl rfl rfl ?_
            refine wq_iload (i := 7) (q := 140) rfl rfl rfl ?_
            refine wq_if_eq (tgt := 147) (q := 143) rfl rfl rfl (fun c140 => ?_) (fun c140 => ?_)
            · skip
              refine wq_iconst (n := 0) (q := 148) rfl rfl rfl ?_
              refine wq_iadd (q := 149) rfl rfl (by first | omega | (simp [hup]; omega)) (by first | omega | (simp [hup]; omega)) ?_
              refine wq_istore (i := 6) (q := 151) rfl rfl (Nat.le_of_ble_eq_true rfl) rfl ?_
              refine wq_goto (tgt := 79) rfl rfl ?_
              first
              | (exfalso; omega)
              | (refine ih _ (by omega) (k + 1) 1 h2 _ rfl (by omega) (by omega) (Or.inl rfl) (fun _ => ⟨hM2, h5'⟩) (fun j j0 j1 => ?_) (fun z => by omega) f3 eo' e1'
                 by_cases e : j = k + 1
                 · rw [e]; omega
                 · exact hj j j0 (by omega))
              | (rw [show k + 0 = k by omega]
                 exact ih _ (by omega) k 0 h2 _ rfl (by omega) (by omega) (Or.inr rfl) (fun z => by omega) hj (fun _ => ⟨by omega, by omega⟩) f3 eo' e1')
            · skip
              refine wq_iconst (n := 1) (q := 144) rfl rfl rfl ?_
              refine wq_goto (tgt := 148) rfl rfl ?_
              refine wq_iadd (q := 149) rfl rfl (by first | omega | (simp [hup]; omega)) (by first | omega | (simp [hup]; omega)) ?_
              refine wq_istore (i := 6) (q := 151) rfl rfl (Nat.le_of_ble_eq_true rfl) rfl ?_
              refine wq_goto (tgt := 79) rfl rfl ?_
              first
              | (exfalso; omega)
              | (refine ih _ (by omega) (k + 1) 1 h2 _ rfl (by omega) (by omega) (Or.inl rfl) (fun _ => ⟨hM2, h5'⟩) (fun j j0 j1 => ?_) (fun z => by omega) f3 eo' e1'
                 by_cases e : j = k + 1
                 · rw [e]; omega
                 · exact hj j j0 (by omega))
              | (rw [show k + 0 = k by omega]
                 exact ih _ (by omega) k 0 h2 _ rfl (by omega) (by omega) (Or.inr rfl) (fun z => by omega) hj (fun _ => ⟨by omega, by omega⟩) f3 eo' e1')
          · skip
            refine wq_iconst (n := 1) (q := 130) rfl rfl rfl ?_
            refine wq_goto (tgt := 134) rfl rfl ?_
            refine wq_istore (i := 7) (q := 136) rfl rfl (Nat.le_of_ble_eq_true rfl) rfl ?_
            refine wq_iload (i := 6) (q := 138) rfl rfl rfl ?_
            refine wq_iload (i := 7) (q := 140) rfl rfl rfl ?_
            refine wq_if_eq (tgt := 147) (q := 143) rfl rfl rfl (fun c140 => ?_) (fun c140 => ?_)
            · skip
              refine wq_iconst (n := 0) (q := 148) rfl rfl rfl ?_
              refine wq_iadd (q := 149) rfl rfl (by first | omega | (simp [hup]; omega)) (by first | omega | (simp [hup]; omega)) ?_
              refine wq_istore (i := 6) (q := 151) rfl rfl (Nat.le_of_ble_eq_true rfl) rfl ?_
              refine wq_goto (tgt := 79) rfl rfl ?_
              first
              | (exfalso; omega)
              | (refine ih _ (by omega) (k + 1) 1 h2 _ rfl (by omega) (by omega) (Or.inl rfl) (fun _ => ⟨hM2, h5'⟩) (fun j j0 j1 => ?_) (fun z => by omega) f3 eo' e1'
                 by_cases e : j = k + 1
                 · rw [e]; omega
                 · exact hj j j0 (by omega))
              | (rw [show k + 0 = k by omega]
                 exact ih _ (by omega) k 0 h2 _ rfl (by omega) (by omega) (Or.inr rfl) (fun z => by omega) hj (fun _ => ⟨by omega, by omega⟩) f3 eo' e1')
            · skip
              refine wq_iconst (n := 1) (q := 144) rfl rfl rfl ?_
              refine wq_goto (tgt := 148) rfl rfl ?_
              refine wq_iadd (q := 149) rfl rfl (by first | omega | (simp [hup]; omega)) (by first | omega | (simp [hup]; omega)) ?_
              refine wq_istore (i := 6) (q := 151) rfl rfl (Nat.le_of_ble_eq_true rfl) rfl ?_
              refine wq_goto (tgt := 79) rfl rfl ?_
              first
              | (exfalso; omega)
              | (refine ih _ (by omega) (k + 1) 1 h2 _ rfl (by omega) (by omega) (Or.inl rfl) (fun _ => ⟨hM2, h5'⟩) (fun j j0 j1 => ?_) (fun z => by omega) f3 eo' e1'
                 by_cases e : j = k + 1
                 · rw [e]; omega
                 · exact hj j j0 (by omega))
              | (rw [show k + 0 = k by omega]
                 exact ih _ (by omega) k 0 h2 _ rfl (by omega) (by omega) (Or.inr rfl) (fun z => by omega) hj (fun _ => ⟨by omega, by omega⟩) f3 eo' e1')
set_option maxRecDepth 100000 in
set_option maxHeartbeats 1000000 in
theorem Mo_slackA (a b t d g : Int) (N : mN) (h : mH) (r : mR) (hI : mI h N) (hg : g = bI ((0 ≤ d ∧ d < nN N) ∧ (0 ≤ a ∧ a < nS N) ∧ 0 ≤ b ∧ b < nS N)) (hL : dp N d → (∀ k, 0 ≤ k → k ≤ 99 → NV (nLate N d k)) ∧ 0 ≤ h 66 (25 + 8 * d + 5) ∧ h 66 (25 + 8 * d + 5) ≤ 99) : WP (true, rm 8) m_Mo_slack (rt m_Mo_slack (rm 8) (rqQ h r (Ans (kD (nS N) a b (bI (isT t)) (nN N) d) (fun v tr => tr = 0 ∧ Sla N a b t d v)))) 39 [some (vR 64), some (vI a), some (vI b), some (vI t), some (vI d), none, none, none, none] [vI (bI (0 ≤ t ∧ t ≤ 1999)), vI g, vR 64] h r (0, 0) := by
  have hn := hI.1.1.1
  subst hg
  refine wq_callS (q := 42) (m' := m_Mo_unless_) (R' := rm 1) (As := [_, _]) rfl rfl l_Mo_304 sm_Mo_unless_ rfl (Nat.le_of_ble_eq_true rfl) (Nat.le_of_ble_eq_true rfl) (Nat.le_refl _) (Nat.le_refl _) (Nat.le_of_ble_eq_true rfl) (Mo_unless2_ok _ _ h r) rfl ?_
  rintro rv h r ⟨rfl, rfl, rfl⟩ -
  have ek : (if bI ((0 ≤ d ∧ d < nN N) ∧ (0 ≤ a ∧ a < nS N) ∧ 0 ≤ b ∧ b < nS N) = 0 then 1 else if bI (isT t) = 0 then 2 else 0) = kD (nS N) a b (bI (isT t)) (nN N) d := by
    unfold kD kP
    by_cases w1 : 0 ≤ d ∧ d < nN N
    · rw [if_pos w1]
      by_cases w2 : (0 ≤ a ∧ a < nS N) ∧ 0 ≤ b ∧ b < nS N
      · rw [bI_t ⟨w1, w2⟩, if_neg (show ¬ (1 : Int) = 0 by decide), if_pos w2]
      · rw [bI_f (fun z => w2 z.2), if_pos rfl, if_neg w2]
    · rw [bI_f (fun z => w1 z.1), if_pos rfl, if_neg w1]
  rw [ek]
  generalize hk : kD (nS N) a b (bI (isT t)) (nN N) d = k
  refine wq_callV (q := 45) (m' := m_Mo_isRefused) (R' := rm 1) (As := [_]) rfl rfl l_Mo_228 vm_Mo_isRefused rfl rfl rfl (Or.inl ⟨rfl, Nat.le_of_ble_eq_true rfl⟩) (Nat.le_of_ble_eq_true rfl) (Nat.le_of_ble_eq_true rfl) (Nat.le_refl _) (Nat.le_refl _) (Nat.le_of_ble_eq_true rfl) (Mo_isRefused_ok k h r) rfl ?_
  rintro rv h1 r ⟨rfl, rfl, rfl⟩ -
  have f1 := x_ref_f (S := qF) (C := qK) (h := h) (k := k) (by decide) (by decide) (by decide) (by decide)
  have I1 := mI_f hI f1 (by decide) (by decide)
  refine wq_cif_eq (tgt := 50) (q := 48) rfl rfl rfl (fun c45 => ?_) (fun c45 => ?_)
  · skip
    have k0 : k = 0 := by simpa using c45
    subst k0
    have hab := kD_0 hk
    have ht := bI_ne hab.2.2
    have hbb := bb_bd hI.1.1 (a := a) (b := b) (t := t) (by omega)
    refine wq_aload_n (kk := 0) (q := 51) rfl rfl rfl ?_
    refine wq_iload_n (kk := 1) (q := 52) rfl rfl rfl ?_
    refine wq_iload_n (kk := 2) (q := 53) rfl rfl rfl ?_
    refine wq_iload_n (kk := 3) (q := 54) rfl rfl rfl ?_
    refine wq_callV (q := 57) (m' := m_Mo_best) (R' := rm 7) (As := [_, _, _]) rfl rfl l_Mo_311 vm_Mo_best rfl rfl rfl (Or.inl ⟨rfl, Nat.le_of_ble_eq_true rfl⟩) (Nat.le_of_ble_eq_true rfl) (Nat.le_of_ble_eq_true rfl) (Nat.le_refl _) (Nat.le_refl _) (Nat.le_of_ble_eq_true rfl) (Mo_best_ok N a b t _ r I1.1 hab.2.1.2 (by omega)) rfl ?_
    rintro rv h2 r ⟨rfl, f2, rfl, -⟩ -
    have hM2 := isM_f I1.1 f2.1 (by decide)
    have e1 : h2 64 1 = 0 := by rw [f2.2 1 (by decide)]; exact x_ref_1
    have f3 := f1.tr (lgq f2) (fun _ y => y) (fun _ y => y)
    have e66 : h2 66 = h 66 := f3.1 66 (by decide)
    refine wq_istore (i := 5) (q := 59) rfl rfl (Nat.le_of_ble_eq_true rfl) rfl ?_
    refine wq_iload (i := 5) (q := 61) rfl rfl rfl ?_
    refine wq_bipush (n := -2) (q := 63) rfl rfl rfl ?_
    refine wq_icmp_ne (tgt := 69) (q := 66) rfl rfl rfl (fun c63 => ?_) (fun c63 => ?_)
    · skip
      refine wq_aload_n (kk := 0) (q := 70) rfl rfl rfl ?_
      refine wq_callV (q := 73) (m' := m_Mo_laysAside) (R' := rm 2) (As := []) rfl rfl l_Mo_342 vm_Mo_laysAside rfl rfl rfl (Or.inl ⟨rfl, Nat.le_of_ble_eq_true rfl⟩) (Nat.le_of_ble_eq_true rfl) (Nat.le_of_ble_eq_true rfl) (Nat.le_refl _) (Nat.le_refl _) (Nat.le_of_ble_eq_true rfl) (Mo_laysAside_ok h2 r) rfl ?_
      rintro rv h3 r ⟨rfl, rfl, hc⟩ -
      have f4 : f64 qF qK h h3 := f3.tr (S' := []) (C' := [68]) ⟨hc.1, fun j _ => hc.1.at 64 j (by decide)⟩ (by decide) (by decide)
      have hM3 := isM_f hM2 hc.1 (by decide)
      have e1' : h3 64 1 = 0 := by rw [hc.1.at 64 1 (by decide)]; exact e1
      have e66' : h3 66 = h 66 := f4.1 66 (by decide)
      refine wq_iconst (n := 0) (q := 74) rfl rfl rfl ?_
      refine wq_istore (i := 6) (q := 76) rfl rfl (Nat.le_of_ble_eq_true rfl) rfl ?_
      refine wq_iconst (n := 1) (q := 77) rfl rfl rfl ?_
      refine wq_istore (i := 7) (q := 79) rfl rfl (Nat.le_of_ble_eq_true rfl) rfl ?_
      have hl := hL hab.1
      refine Mo_slackL N a b t d (h 66 (25 + 8 * d + 5)) h h3 r hab.1 hab.2.1.2 ht (by omega) hl.1 hl.2 h2 hc e66 f4 _ (fun v hv => Or.inr ⟨rfl, rfl, hv⟩) _ 0 1 h3 none rfl (by omega) (by omega) (Or.inl rfl) (fun _ => ⟨by rw [nLate_0]; exact hM3, by rw [e66']; omega⟩) (fun j j0 j1 => by omega) (fun z => by omega) f64.rf (fun x _ => by rw [e66']) e1'
    · skip
      refine wq_bipush (n := -2) (q := 68) rfl rfl rfl ?_
      exact wq_iret rfl rfl (Nat.le_refl _) (Nat.le_refl _) ⟨_, rfl, rfl, Or.inr ⟨rfl, e1, Or.inl ⟨by omega, rfl⟩⟩, by omega, f3⟩
  · skip
    refine wq_iconst (n := -1) (q := 49) rfl rfl rfl ?_
    exact wq_iret rfl rfl (Nat.le_refl _) (Nat.le_refl _) ⟨_, rfl, rfl, Or.inl ⟨c45, rfl, x_ref_1⟩, by rw [x_ref_1]; have := kD_b (n := nS N) (a := a) (b := b) (g := bI (isT t)) (m := nN N) (d := d); omega, f1⟩
set_option maxRecDepth 100000 in
set_option maxHeartbeats 1000000 in
theorem Mo_slack_ok (a b t d : Int) (N : mN) (h : mH) (r : mR) (hI : mI h N) (hL : dp N d → (∀ k, 0 ≤ k → k ≤ 99 → NV (nLate N d k)) ∧ 0 ≤ h 66 (25 + 8 * d + 5) ∧ h 66 (25 + 8 * d + 5) ≤ 99) : Meets true (rm 8) m_Mo_slack [vR 64, vI a, vI b, vI t, vI d] h r (rqQ h r (Ans (kD (nS N) a b (bI (isT t)) (nN N) d) (fun v tr => tr = 0 ∧ Sla N a b t d v))) := by
  have e1 := hI.1.2.2.1
  have e4 := hI.1.2.1
  have hS := hI.1.1.2.1
  have hn := hI.1.1.1
  have hT := hI.2
  refine ⟨ok_Mo_slack, Nat.le_of_ble_eq_true rfl, ?_⟩
  refine wq_aload_n (kk := 0) (q := 1) rfl rfl rfl ?_
  refine wq_aload_n (kk := 0) (q := 2) rfl rfl rfl ?_
  refine wq_iload_n (kk := 1) (q := 3) rfl rfl rfl ?_
  refine wq_callV (q := 6) (m' := m_Mo_isSpot) (R' := rm 2) (As := [_]) rfl rfl l_Mo_263 vm_Mo_isSpot rfl rfl rfl (Or.inl ⟨rfl, Nat.le_of_ble_eq_true rfl⟩) (Nat.le_of_ble_eq_true rfl) (Nat.le_of_ble_eq_true rfl) (Nat.le_refl _) (Nat.le_refl _) (Nat.le_of_ble_eq_true rfl) (Mo_isSpot_ok a h r (by omega) (by omega) (by omega)) rfl ?_
  rintro rv h r ⟨rfl, rfl, rfl⟩ -
  refine wq_cif_eq (tgt := 30) (q := 9) rfl rfl rfl (fun c6 => ?_) (fun c6 => ?_)
  · skip
    refine wq_iconst (n := 0) (q := 31) rfl rfl rfl ?_
    refine wq_iload_n (kk := 3) (q := 32) rfl rfl rfl ?_
    refine wq_iconst (n := 0) (q := 33) rfl rfl rfl ?_
    refine wq_sipush (n := 1999) (q := 36) rfl rfl rfl ?_
    refine wq_callS (q := 39) (m' := m_Mo_in) (R' := rm 1) (As := [_, _, _]) rfl rfl l_Mo_107 sm_Mo_in rfl (Nat.le_of_ble_eq_true rfl) (Nat.le_of_ble_eq_true rfl) (Nat.le_refl _) (Nat.le_refl _) (Nat.le_of_ble_eq_true rfl) (Mo_in_ok _ _ _ h r) rfl ?_
    rintro rv h r ⟨rfl, rfl, rfl⟩ -
    first
    | exact Mo_slackA a b t d 1 N h r hI (bI_t (by omega)).symm hL
    | exact Mo_slackA a b t d 0 N h r hI (bI_f (by omega)).symm hL
  · skip
    refine wq_aload_n (kk := 0) (q := 10) rfl rfl rfl ?_
    refine wq_iload_n (kk := 2) (q := 11) rfl rfl rfl ?_
    refine wq_callV (q := 14) (m' := m_Mo_isSpot) (R' := rm 2) (As := [_]) rfl rfl l_Mo_263 vm_Mo_isSpot rfl rfl rfl (Or.inl ⟨rfl, Nat.le_of_ble_eq_true rfl⟩) (Nat.le_of_ble_eq_true rfl) (Nat.le_of_ble_eq_true rfl) (Nat.le_refl _) (Nat.le_refl _) (Nat.le_of_ble_eq_true rfl) (Mo_isSpot_ok b h r (by omega) (by omega) (by omega)) rfl ?_
    rintro rv h r ⟨rfl, rfl, rfl⟩ -
    refine wq_cif_eq (tgt := 30) (q := 17) rfl rfl rfl (fun c14 => ?_) (fun c14 => ?_)
    · skip
      refine wq_iconst (n := 0) (q := 31) rfl rfl rfl ?_
      refine wq_iload_n (kk := 3) (q := 32) rfl rfl rfl ?_
      refine wq_iconst (n := 0) (q := 33) rfl rfl rfl ?_
      refine wq_sipush (n := 1999) (q := 36) rfl rfl rfl ?_
      refine wq_callS (q := 39) (m' := m_Mo_in) (R' := rm 1) (As := [_, _, _]) rfl rfl l_Mo_107 sm_Mo_in rfl (Nat.le_of_ble_eq_true rfl) (Nat.le_of_ble_eq_true rfl) (Nat.le_refl _) (Nat.le_refl _) (Nat.le_of_ble_eq_true rfl) (Mo_in_ok _ _ _ h r) rfl ?_
      rintro rv h r ⟨rfl, rfl, rfl⟩ -
      first
      | exact Mo_slackA a b t d 1 N h r hI (bI_t (by omega)).symm hL
      | exact Mo_slackA a b t d 0 N h r hI (bI_f (by omega)).symm hL
    · skip
      refine wq_aload_n (kk := 0) (q := 18) rfl rfl rfl ?_
      refine wq_iload (i := 4) (q := 20) rfl rfl rfl ?_
      refine wq_callV (q := 23) (m' := m_Mo_isOne) (R' := rm 2) (As := [_]) rfl rfl l_Mo_269 vm_Mo_isOne rfl rfl rfl (Or.inl ⟨rfl, Nat.le_of_ble_eq_true rfl⟩) (Nat.le_of_ble_eq_true rfl) (Nat.le_of_ble_eq_true rfl) (Nat.le_refl _) (Nat.le_refl _) (Nat.le_of_ble_eq_true rfl) (Mo_isOne_ok d h r (by omega) (by omega) (by omega)) rfl ?_
      rintro rv h r ⟨rfl, rfl, rfl⟩ -
      refine wq_cif_eq (tgt := 30) (q := 26) rfl rfl rfl (fun c23 => ?_) (fun c23 => ?_)
      · skip
        refine wq_iconst (n := 0) (q := 31) rfl rfl rfl ?_
        refine wq_iload_n (kk := 3) (q := 32) rfl rfl rfl ?_
        refine wq_iconst (n := 0) (q := 33) rfl rfl rfl ?_
        refine wq_sipush (n := 1999) (q := 36) rfl rfl rfl ?_
        refine wq_callS (q := 39) (m' := m_Mo_in) (R' := rm 1) (As := [_, _, _]) rfl rfl l_Mo_107 sm_Mo_in rfl (Nat.le_of_ble_eq_true rfl) (Nat.le_of_ble_eq_true rfl) (Nat.le_refl _) (Nat.le_refl _) (Nat.le_of_ble_eq_true rfl) (Mo_in_ok _ _ _ h r) rfl ?_
        rintro rv h r ⟨rfl, rfl, rfl⟩ -
        first
        | exact Mo_slackA a b t d 1 N h r hI (bI_t (by omega)).symm hL
        | exact Mo_slackA a b t d 0 N h r hI (bI_f (by omega)).symm hL
      · skip
        refine wq_iconst (n := 1) (q := 27) rfl rfl rfl ?_
        refine wq_goto (tgt := 31) rfl rfl ?_
        refine wq_iload_n (kk := 3) (q := 32) rfl rfl rfl ?_
        refine wq_iconst (n := 0) (q := 33) rfl rfl rfl ?_
        refine wq_sipush (n := 1999) (q := 36) rfl rfl rfl ?_
        refine wq_callS (q := 39) (m' := m_Mo_in) (R' := rm 1) (As := [_, _, _]) rfl rfl l_Mo_107 sm_Mo_in rfl (Nat.le_of_ble_eq_true rfl) (Nat.le_of_ble_eq_true rfl) (Nat.le_refl _) (Nat.le_refl _) (Nat.le_of_ble_eq_true rfl) (Mo_in_ok _ _ _ h r) rfl ?_
        rintro rv h r ⟨rfl, rfl, rfl⟩ -
        first
        | exact Mo_slackA a b t d 1 N h r hI (bI_t (by omega)).symm hL
        | exact Mo_slackA a b t d 0 N h r hI (bI_f (by omega)).symm hL

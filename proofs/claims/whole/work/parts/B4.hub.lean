/-! LinkTimesModel: pairs, hub, slowest: the calls -/
theorem sm_add {f g : Int → Int} : ∀ {n : Nat}, sm (fun x => f x + g x) n = sm f n + sm g n
  | 0 => rfl
  | n + 1 => by
    show sm (fun x => f x + g x) n + (f n + g n) = (sm f n + f n) + (sm g n + g n)
    rw [sm_add (n := n)]
    omega
theorem sm_zero : ∀ {n : Nat}, sm (fun _ => 0) n = 0
  | 0 => rfl
  | n + 1 => by
    show sm (fun _ => 0) n + 0 = 0
    rw [sm_zero (n := n)]; rfl
theorem sm_swap {f : Int → Int → Int} {m : Nat} : ∀ {n : Nat}, sm (fun y => sm (fun x => f x y) m) n = sm (fun x => sm (fun y => f x y) n) m
  | 0 => by
    show (0 : Int) = sm (fun x => 0) m
    rw [sm_zero]
  | n + 1 => by
    show sm (fun y => sm (fun x => f x y) m) n + sm (fun x => f x n) m = sm (fun x => sm (fun y => f x y) n + f x n) m
    rw [sm_swap (n := n), sm_add]
theorem kT_b {n g : Int} : 0 ≤ kT n g ∧ kT n g ≤ 2 := by
  unfold kT
  split
  · split <;> omega
  · omega
set_option maxRecDepth 100000 in
set_option maxHeartbeats 1000000 in
theorem Mo_isAsked_ok (t : Int) (N : mN) (h : mH) (r : mR) (hI : mI h N) : Meets true (rm 8) m_Mo_isAsked [vR 64, vI t] h r (fun rv h1 r1 => r1 = r ∧ f64 qF qK h h1 ∧ rv = some (vI (bI (kT (nS N) (bI (isT t)) = 0))) ∧ h1 64 1 = kT (nS N) (bI (isT t)) ∧ (kT (nS N) (bI (isT t)) = 0 → prD N t h1)) := by
  have hT := hI.2
  have hS := hI.1.1.2.1
  refine ⟨ok_Mo_isAsked, Nat.le_of_ble_eq_true rfl, ?_⟩
  refine wq_aload_n (kk := 0) (q := 1) rfl rfl rfl ?_
  refine wq_aload_n (kk := 0) (q := 2) rfl rfl rfl ?_
  refine wq_getI (kz := 11) (q := 5) rfl f_Mo_244 rfl rfl (Or.inl ⟨rfl, Nat.le_of_ble_eq_true rfl⟩) rfl rfl ?_
  refine wq_iload_n (kk := 1) (q := 6) rfl rfl rfl ?_
  refine wq_iconst (n := 0) (q := 7) rfl rfl rfl ?_
  refine wq_sipush (n := 1999) (q := 10) rfl rfl rfl ?_
  refine wq_callS (q := 13) (m' := m_Mo_in) (R' := rm 1) (As := [_, _, _]) rfl rfl l_Mo_107 sm_Mo_in rfl (Nat.le_of_ble_eq_true rfl) (Nat.le_of_ble_eq_true rfl) (Nat.le_refl _) (Nat.le_refl _) (Nat.le_of_ble_eq_true rfl) (Mo_in_ok _ _ _ h r) rfl ?_
  rintro rv h r ⟨rfl, rfl, rfl⟩ -
  refine wq_callS (q := 16) (m' := m_Mo_unless_) (R' := rm 1) (As := [_, _]) rfl rfl l_Mo_304 sm_Mo_unless_ rfl (Nat.le_of_ble_eq_true rfl) (Nat.le_of_ble_eq_true rfl) (Nat.le_refl _) (Nat.le_refl _) (Nat.le_of_ble_eq_true rfl) (Mo_unless2_ok _ _ h r) rfl ?_
  rintro rv h r ⟨rfl, rfl, rfl⟩ -
  have ek : (if h 64 11 = 0 then 1 else if bI (0 ≤ t ∧ t ≤ 1999) = 0 then 2 else 0) = kT (nS N) (bI (isT t)) := by
    unfold kT
    by_cases w : 0 < nS N
    · rw [if_neg (show ¬ h 64 11 = 0 by omega), if_pos w]
    · rw [if_pos (show h 64 11 = 0 by omega), if_neg w]
  rw [ek]
  generalize hk : kT (nS N) (bI (isT t)) = k
  refine wq_callV (q := 19) (m' := m_Mo_isRefused) (R' := rm 1) (As := [_]) rfl rfl l_Mo_228 vm_Mo_isRefused rfl rfl rfl (Or.inl ⟨rfl, Nat.le_of_ble_eq_true rfl⟩) (Nat.le_of_ble_eq_true rfl) (Nat.le_of_ble_eq_true rfl) (Nat.le_refl _) (Nat.le_refl _) (Nat.le_of_ble_eq_true rfl) (Mo_isRefused_ok k h r) rfl ?_
  rintro rv h1 r ⟨rfl, rfl, rfl⟩ -
  have f1 := x_ref_f (S := qF) (C := qK) (h := h) (k := k) (by decide) (by decide) (by decide) (by decide)
  have I1 := mI_f hI f1 (by decide) (by decide)
  refine wq_cif_eq (tgt := 24) (q := 22) rfl rfl rfl (fun c19 => ?_) (fun c19 => ?_)
  · skip
    have k0 : k = 0 := by simpa using c19
    subst k0
    have ht := bI_ne (kT_0 hk).2
    refine wq_aload_n (kk := 0) (q := 25) rfl rfl rfl ?_
    refine wq_iload_n (kk := 1) (q := 26) rfl rfl rfl ?_
    refine wq_callV (q := 29) (m' := m_Mo_laysPairs) (R' := rm 7) (As := [_]) rfl rfl l_Mo_363 vm_Mo_laysPairs rfl rfl rfl (Or.inl ⟨rfl, Nat.le_of_ble_eq_true rfl⟩) (Nat.le_of_ble_eq_true rfl) (Nat.le_of_ble_eq_true rfl) (Nat.le_refl _) (Nat.le_refl _) (Nat.le_of_ble_eq_true rfl) (Mo_laysPairs_ok N t ht _ r I1.1) rfl ?_
    rintro rv h2 r ⟨rfl, rfl, f2, hP⟩ -
    refine wq_iconst (n := 1) (q := 30) rfl rfl rfl ?_
    exact wq_zret rfl rfl (Nat.le_refl _) (Nat.le_refl _) (by omega) ⟨rfl, f1.tr f2 (by decide) (by decide), by rw [bI_t rfl], by rw [f2.2 1 (by decide)]; exact x_ref_1, fun _ => hP⟩
  · skip
    refine wq_iconst (n := 0) (q := 23) rfl rfl rfl ?_
    exact wq_zret rfl rfl (Nat.le_refl _) (Nat.le_refl _) (by omega) ⟨rfl, f1, by rw [bI_f c19], x_ref_1, fun z => absurd z c19⟩
theorem prD_p {N : mN} {t : Int} {h : mH} (hP : prD N t h) : h 64 40 = prs N t (nS N) (nS N) := by
  have := hP.1
  have z : ∀ (x : Int → Int), sm x (0 : Int).toNat = 0 := fun _ => rfl
  rw [z, sm_swap] at this
  unfold prs
  omega
theorem prD_s {N : mN} {t : Int} {h : mH} (hP : prD N t h) : Sl N t (nS N) (fun _ _ => True) (h 64 41) := by
  obtain ⟨h1, h2, h3⟩ := hP.2.1
  exact ⟨h1.imp id (fun ⟨x, y, _, z⟩ => ⟨x, y, trivial, z⟩), h2, fun x y _ x0 x1 y0 y1 ne hs => h3 x y (Or.inl y1) x0 x1 y0 y1 ne hs⟩
theorem prD_t {N : mN} {t : Int} {h : mH} (hP : prD N t h) : Tt N t (h 85) := by
  refine ⟨fun b a => Cc N t b a, fun b a b0 b1 a0 a1 => hP.2.2.2.2.1 b a b0 a0 a1 (Or.inl b1), fun s s0 s1 => ?_⟩
  have := hP.2.2.1 s s0 s1
  have z : ∀ (x : Int → Int), sm x (0 : Int).toNat = 0 := fun _ => rfl
  rw [z, Int.add_zero] at this
  exact this
set_option maxRecDepth 100000 in
set_option maxHeartbeats 1000000 in
theorem Mo_pairs_ok (t : Int) (N : mN) (h : mH) (r : mR) (hI : mI h N) : Meets true (rm 9) m_Mo_pairs [vR 64, vI t] h r (rqQ h r (Ans (kT (nS N) (bI (isT t))) (fun v tr => tr = 0 ∧ v = prs N t (nS N) (nS N)))) := by
  have hb := kT_b (n := nS N) (g := bI (isT t))
  refine ⟨ok_Mo_pairs, Nat.le_of_ble_eq_true rfl, ?_⟩
  refine wq_aload_n (kk := 0) (q := 1) rfl rfl rfl ?_
  refine wq_iload_n (kk := 1) (q := 2) rfl rfl rfl ?_
  refine wq_callV (q := 5) (m' := m_Mo_isAsked) (R' := rm 8) (As := [_]) rfl rfl l_Mo_366 vm_Mo_isAsked rfl rfl rfl (Or.inl ⟨rfl, Nat.le_of_ble_eq_true rfl⟩) (Nat.le_of_ble_eq_true rfl) (Nat.le_of_ble_eq_true rfl) (Nat.le_refl _) (Nat.le_refl _) (Nat.le_of_ble_eq_true rfl) (Mo_isAsked_ok t N h r hI) rfl ?_
  rintro rv h1 r ⟨rfl, f1, rfl, e1, hP⟩ -
  refine wq_cif_eq (tgt := 15) (q := 8) rfl rfl rfl (fun c5 => ?_) (fun c5 => ?_)
  · skip
    refine wq_iconst (n := -1) (q := 16) rfl rfl rfl ?_
    first
    | exact wq_iret rfl rfl (Nat.le_refl _) (Nat.le_refl _) ⟨_, rfl, rfl, Or.inl ⟨c5, rfl, e1⟩, by omega, f1⟩
    | exact wq_iret rfl rfl (Nat.le_refl _) (Nat.le_refl _) ⟨_, rfl, rfl, Or.inr ⟨c5, by omega, prD_p (hP c5)⟩, by omega, f1⟩
  · skip
    refine wq_aload_n (kk := 0) (q := 9) rfl rfl rfl ?_
    refine wq_getI (kz := 40) (q := 12) rfl f_Mo_357 rfl rfl (Or.inl ⟨rfl, Nat.le_of_ble_eq_true rfl⟩) rfl rfl ?_
    refine wq_goto (tgt := 16) rfl rfl ?_
    first
    | exact wq_iret rfl rfl (Nat.le_refl _) (Nat.le_refl _) ⟨_, rfl, rfl, Or.inl ⟨c5, rfl, e1⟩, by omega, f1⟩
    | exact wq_iret rfl rfl (Nat.le_refl _) (Nat.le_refl _) ⟨_, rfl, rfl, Or.inr ⟨c5, by omega, prD_p (hP c5)⟩, by omega, f1⟩
set_option maxRecDepth 100000 in
set_option maxHeartbeats 1000000 in
theorem Mo_slowest_ok (t : Int) (N : mN) (h : mH) (r : mR) (hI : mI h N) : Meets true (rm 9) m_Mo_slowest [vR 64, vI t] h r (rqQ h r (Ans (kT (nS N) (bI (isT t))) (fun v tr => tr = 0 ∧ Sl N t (nS N) (fun _ _ => True) v))) := by
  have hb := kT_b (n := nS N) (g := bI (isT t))
  refine ⟨ok_Mo_slowest, Nat.le_of_ble_eq_true rfl, ?_⟩
  refine wq_aload_n (kk := 0) (q := 1) rfl rfl rfl ?_
  refine wq_iload_n (kk := 1) (q := 2) rfl rfl rfl ?_
  refine wq_callV (q := 5) (m' := m_Mo_isAsked) (R' := rm 8) (As := [_]) rfl rfl l_Mo_366 vm_Mo_isAsked rfl rfl rfl (Or.inl ⟨rfl, Nat.le_of_ble_eq_true rfl⟩) (Nat.le_of_ble_eq_true rfl) (Nat.le_of_ble_eq_true rfl) (Nat.le_refl _) (Nat.le_refl _) (Nat.le_of_ble_eq_true rfl) (Mo_isAsked_ok t N h r hI) rfl ?_
  rintro rv h1 r ⟨rfl, f1, rfl, e1, hP⟩ -
  refine wq_cif_eq (tgt := 15) (q := 8) rfl rfl rfl (fun c5 => ?_) (fun c5 => ?_)
  · skip
    refine wq_iconst (n := -1) (q := 16) rfl rfl rfl ?_
    first
    | exact wq_iret rfl rfl (Nat.le_refl _) (Nat.le_refl _) ⟨_, rfl, rfl, Or.inl ⟨c5, rfl, e1⟩, by omega, f1⟩
    | exact wq_iret rfl rfl (Nat.le_refl _) (Nat.le_refl _) ⟨_, rfl, rfl, Or.inr ⟨c5, by omega, prD_s (hP c5)⟩, by omega, f1⟩
  · skip
    refine wq_aload_n (kk := 0) (q := 9) rfl rfl rfl ?_
    refine wq_getI (kz := 41) (q := 12) rfl f_Mo_360 rfl rfl (Or.inl ⟨rfl, Nat.le_of_ble_eq_true rfl⟩) rfl rfl ?_
    refine wq_goto (tgt := 16) rfl rfl ?_
    first
    | exact wq_iret rfl rfl (Nat.le_refl _) (Nat.le_refl _) ⟨_, rfl, rfl, Or.inl ⟨c5, rfl, e1⟩, by omega, f1⟩
    | exact wq_iret rfl rfl (Nat.le_refl _) (Nat.le_refl _) ⟨_, rfl, rfl, Or.inr ⟨c5, by omega, prD_s (hP c5)⟩, by omega, f1⟩
def huI (T : mF) (s v : Int) : Prop := (v = -2 ∧ ∀ x, 0 ≤ x → x < s → T x ≤ 0) ∨ ((0 ≤ v ∧ v < s) ∧ 0 < T v ∧ ∀ x, 0 ≤ x → x < s → T x ≤ T v ∧ (x < v → T x < T v))
set_option maxRecDepth 100000 in
set_option maxHeartbeats 1000000 in
theorem Mo_hubL (N : mN) (t : Int) (hV : NV N) (h : mH) (r : mR) (h1 : mH) (hP : prD N t h1) (e1 : h1 64 1 = 0) (f1 : f64 qF qK h h1) (P : Int → Int → Prop) (K : ∀ v, Hu (h1 85) (nS N) v → P v 0) : ∀ (M : Nat) (s v : Int) (x4 : Option mV), (10 - s).toNat = M → 0 ≤ s → s ≤ 10 → huI (h1 85) s v → WP (true, rm 9) m_Mo_hub (rt m_Mo_hub (rm 9) (rqQ h r P)) 15 [some (vR 64), some (vI t), some (vI v), some (vI s), x4] [] h1 r (0, 0) := by
  intro M
  induction M using Nat.strongRecOn with
  | ind M ih =>
    intro s v x4 hN s0 s1 hI
    have hv : v = -2 ∨ 0 ≤ v ∧ v < s := hI.elim (fun z => Or.inl z.1) (fun z => Or.inr z.1)
    have hS := hV.2.1
    refine wq_iload_n (kk := 3) (q := 16) rfl rfl rfl ?_
    refine wq_bipush (n := 10) (q := 18) rfl rfl rfl ?_
    refine wq_icmp_ge (tgt := 62) (q := 21) rfl rfl rfl (fun c18 => ?_) (fun c18 => ?_)
    · skip
      refine wq_iload_n (kk := 2) (q := 63) rfl rfl rfl ?_
      have es : s = 10 := by omega
      subst es
      refine wq_iret rfl rfl (Nat.le_refl _) (Nat.le_refl _) ⟨_, rfl, rfl, ?_, by omega, f1⟩
      rw [e1]
      refine K v ?_
      have z0 := hP.2.2.2.1
      rcases hI with ⟨z1, z2⟩ | ⟨z1, z2, z3⟩
      · exact Or.inl ⟨z1, fun x x0 x1 => z2 x x0 (by omega)⟩
      · have hvn : v < nS N := by
          by_cases y : v < nS N
          · exact y
          · have := z0 v (by omega) z1.2; omega
        exact Or.inr ⟨⟨z1.1, hvn⟩, z2, fun x x0 x1 => z3 x x0 (by omega)⟩
    · skip
      refine wq_iload_n (kk := 2) (q := 22) rfl rfl rfl ?_
      refine wq_bipush (n := -2) (q := 24) rfl rfl rfl ?_
      refine wq_icmp_ne (tgt := 31) (q := 27) rfl rfl rfl (fun c24 => ?_) (fun c24 => ?_)
      · skip
        refine wq_aload_n (kk := 0) (q := 32) rfl rfl rfl ?_
        refine wq_getF (q := 35) f_Mo_75 rfl rfl (Nat.le_of_ble_eq_true rfl) rfl rfl rfl ?_
        refine wq_iload_n (kk := 2) (q := 36) rfl rfl rfl ?_
        refine wq_iald (q := 37) rfl (Or.inl ⟨rfl, Nat.le_of_ble_eq_true rfl⟩) rfl rfl (by first | omega | (simp [hup]; omega)) (by first | omega | (simp [hup]; omega)) ?_
        refine wq_istore (i := 4) (q := 39) rfl rfl (Nat.le_of_ble_eq_true rfl) rfl ?_
        refine wq_aload_n (kk := 0) (q := 40) rfl rfl rfl ?_
        refine wq_getF (q := 43) f_Mo_75 rfl rfl (Nat.le_of_ble_eq_true rfl) rfl rfl rfl ?_
        refine wq_iload_n (kk := 3) (q := 44) rfl rfl rfl ?_
        refine wq_iald (q := 45) rfl (Or.inl ⟨rfl, Nat.le_of_ble_eq_true rfl⟩) rfl rfl (by first | omega | (simp [hup]; omega)) (by first | omega | (simp [hup]; omega)) ?_
        refine wq_iload (i := 4) (q := 47) rfl rfl rfl ?_
        refine wq_icmp_le (tgt := 54) (q := 50) rfl rfl rfl (fun c47 => ?_) (fun c47 => ?_)
        · skip
          refine wq_iload_n (kk := 2) (q := 55) rfl rfl rfl ?_
          refine wq_istore_n (kk := 2) (q := 56) rfl rfl (Nat.le_of_ble_eq_true rfl) rfl ?_
          refine wq_iinc (i := 3) (n := 1) (q := 59) rfl rfl rfl (Nat.le_of_ble_eq_true rfl) rfl (by first | omega | (simp [hup]; omega)) (by first | omega | (simp [hup]; omega)) ?_
          refine wq_goto (tgt := 15) rfl rfl ?_
          refine ih _ (by omega) (s + 1) _ _ rfl (by omega) (by omega) ?_
          rcases hI with ⟨z1, z2⟩ | ⟨z1, z2, z3⟩
          · first
            | (refine Or.inl ⟨z1, fun x x0 x1 => ?_⟩
               by_cases e : x = s
               · subst e; omega
               · exact z2 x x0 (by omega))
            | (refine Or.inr ⟨by omega, by omega, fun x x0 x1 => ?_⟩
               by_cases e : x = s
               · subst e; omega
               · have := z2 x x0 (by omega); omega)
          · first
            | (refine Or.inr ⟨by omega, z2, fun x x0 x1 => ?_⟩
               by_cases e : x = s
               · subst e; omega
               · exact z3 x x0 (by omega))
            | (refine Or.inr ⟨by omega, by omega, fun x x0 x1 => ?_⟩
               by_cases e : x = s
               · subst e; omega
               · have := z3 x x0 (by omega); omega)
        · skip
          refine wq_iload_n (kk := 3) (q := 51) rfl rfl rfl ?_
          refine wq_goto (tgt := 55) rfl rfl ?_
          refine wq_istore_n (kk := 2) (q := 56) rfl rfl (Nat.le_of_ble_eq_true rfl) rfl ?_
          refine wq_iinc (i := 3) (n := 1) (q := 59) rfl rfl rfl (Nat.le_of_ble_eq_true rfl) rfl (by first | omega | (simp [hup]; omega)) (by first | omega | (simp [hup]; omega)) ?_
          refine wq_goto (tgt := 15) rfl rfl ?_
          refine ih _ (by omega) (s + 1) _ _ rfl (by omega) (by omega) ?_
          rcases hI with ⟨z1, z2⟩ | ⟨z1, z2, z3⟩
          · first
            | (refine Or.inl ⟨z1, fun x x0 x1 => ?_⟩
               by_cases e : x = s
               · subst e; omega
               · exact z2 x x0 (by omega))
            | (refine Or.inr ⟨by omega, by omega, fun x x0 x1 => ?_⟩
               by_cases e : x = s
               · subst e; omega
               · have := z2 x x0 (by omega); omega)
          · first
            | (refine Or.inr ⟨by omega, z2, fun x x0 x1 => ?_⟩
               by_cases e : x = s
               · subst e; omega
               · exact z3 x x0 (by omega))
            | (refine Or.inr ⟨by omega, by omega, fun x x0 x1 => ?_⟩
               by_cases e : x = s
               · subst e; omega
               · have := z3 x x0 (by omega); omega)
      · skip
        refine wq_iconst (n := 0) (q := 28) rfl rfl rfl ?_
        refine wq_goto (tgt := 37) rfl rfl ?_
        refine wq_istore (i := 4) (q := 39) rfl rfl (Nat.le_of_ble_eq_true rfl) rfl ?_
        refine wq_aload_n (kk := 0) (q := 40) rfl rfl rfl ?_
        refine wq_getF (q := 43) f_Mo_75 rfl rfl (Nat.le_of_ble_eq_true rfl) rfl rfl rfl ?_
        refine wq_iload_n (kk := 3) (q := 44) rfl rfl rfl ?_
        refine wq_iald (q := 45) rfl (Or.inl ⟨rfl, Nat.le_of_ble_eq_true rfl⟩) rfl rfl (by first | omega | (simp [hup]; omega)) (by first | omega | (simp [hup]; omega)) ?_
        refine wq_iload (i := 4) (q := 47) rfl rfl rfl ?_
        refine wq_icmp_le (tgt := 54) (q := 50) rfl rfl rfl (fun c47 => ?_) (fun c47 => ?_)
        · skip
          refine wq_iload_n (kk := 2) (q := 55) rfl rfl rfl ?_
          refine wq_istore_n (kk := 2) (q := 56) rfl rfl (Nat.le_of_ble_eq_true rfl) rfl ?_
          refine wq_iinc (i := 3) (n := 1) (q := 59) rfl rfl rfl (Nat.le_of_ble_eq_true rfl) rfl (by first | omega | (simp [hup]; omega)) (by first | omega | (simp [hup]; omega)) ?_
          refine wq_goto (tgt := 15) rfl rfl ?_
          refine ih _ (by omega) (s + 1) _ _ rfl (by omega) (by omega) ?_
          rcases hI with ⟨z1, z2⟩ | ⟨z1, z2, z3⟩
          · first
            | (refine Or.inl ⟨z1, fun x x0 x1 => ?_⟩
               by_cases e : x = s
               · subst e; omega
               · exact z2 x x0 (by omega))
            | (refine Or.inr ⟨by omega, by omega, fun x x0 x1 => ?_⟩
               by_cases e : x = s
               · subst e; omega
               · have := z2 x x0 (by omega); omega)
          · first
            | (refine Or.inr ⟨by omega, z2, fun x x0 x1 => ?_⟩
               by_cases e : x = s
               · subst e; omega
               · exact z3 x x0 (by omega))
            | (refine Or.inr ⟨by omega, by omega, fun x x0 x1 => ?_⟩
               by_cases e : x = s
               · subst e; omega
               · have := z3 x x0 (by omega); omega)
        · skip
          refine wq_iload_n (kk := 3) (q := 51) rfl rfl rfl ?_
          refine wq_goto (tgt := 55) rfl rfl ?_
          refine wq_istore_n (kk := 2) (q := 56) rfl rfl (Nat.le_of_ble_eq_true rfl) rfl ?_
          refine wq_iinc (i := 3) (n := 1) (q := 59) rfl rfl rfl (Nat.le_of_ble_eq_true rfl) rfl (by first | omega | (simp [hup]; omega)) (by first | omega | (simp [hup]; omega)) ?_
          refine wq_goto (tgt := 15) rfl rfl ?_
          refine ih _ (by omega) (s + 1) _ _ rfl (by omega) (by omega) ?_
          rcases hI with ⟨z1, z2⟩ | ⟨z1, z2, z3⟩
          · first
            | (refine Or.inl ⟨z1, fun x x0 x1 => ?_⟩
               by_cases e : x = s
               · subst e; omega
               · exact z2 x x0 (by omega))
            | (refine Or.inr ⟨by omega, by omega, fun x x0 x1 => ?_⟩
               by_cases e : x = s
               · subst e; omega
               · have := z2 x x0 (by omega); omega)
          · first
            | (refine Or.inr ⟨by omega, z2, fun x x0 x1 => ?_⟩
               by_cases e : x = s
               · subst e; omega
               · exact z3 x x0 (by omega))
            | (refine Or.inr ⟨by omega, by omega, fun x x0 x1 => ?_⟩
               by_cases e : x = s
               · subst e; omega
               · have := z3 x x0 (by omega); omega)
set_option maxRecDepth 100000 in
set_option maxHeartbeats 1000000 in
theorem Mo_hub_ok (t : Int) (N : mN) (h : mH) (r : mR) (hI : mI h N) : Meets true (rm 9) m_Mo_hub [vR 64, vI t] h r (rqQ h r (Ans (kT (nS N) (bI (isT t))) (fun v tr => tr = 0 ∧ ∃ T, Tt N t T ∧ Hu T (nS N) v))) := by
  have hb := kT_b (n := nS N) (g := bI (isT t))
  refine ⟨ok_Mo_hub, Nat.le_of_ble_eq_true rfl, ?_⟩
  refine wq_aload_n (kk := 0) (q := 1) rfl rfl rfl ?_
  refine wq_iload_n (kk := 1) (q := 2) rfl rfl rfl ?_
  refine wq_callV (q := 5) (m' := m_Mo_isAsked) (R' := rm 8) (As := [_]) rfl rfl l_Mo_366 vm_Mo_isAsked rfl rfl rfl (Or.inl ⟨rfl, Nat.le_of_ble_eq_true rfl⟩) (Nat.le_of_ble_eq_true rfl) (Nat.le_of_ble_eq_true rfl) (Nat.le_refl _) (Nat.le_refl _) (Nat.le_of_ble_eq_true rfl) (Mo_isAsked_ok t N h r hI) rfl ?_
  rintro rv h1 r ⟨rfl, f1, rfl, e1, hP⟩ -
  refine wq_cif_ne (tgt := 10) (q := 8) rfl rfl rfl (fun c5 => ?_) (fun c5 => ?_)
  · skip
    refine wq_bipush (n := -2) (q := 12) rfl rfl rfl ?_
    refine wq_istore_n (kk := 2) (q := 13) rfl rfl (Nat.le_of_ble_eq_true rfl) rfl ?_
    refine wq_iconst (n := 0) (q := 14) rfl rfl rfl ?_
    refine wq_istore_n (kk := 3) (q := 15) rfl rfl (Nat.le_of_ble_eq_true rfl) rfl ?_
    exact Mo_hubL N t hI.1.1 h r h1 (hP c5) (by omega) f1 _ (fun v hv => Or.inr ⟨c5, rfl, _, prD_t (hP c5), hv⟩) _ 0 _ none rfl (by omega) (by omega) (Or.inl ⟨rfl, fun x x0 x1 => by omega⟩)
  · skip
    refine wq_iconst (n := -1) (q := 9) rfl rfl rfl ?_
    exact wq_iret rfl rfl (Nat.le_refl _) (Nat.le_refl _) ⟨_, rfl, rfl, Or.inl ⟨c5, rfl, e1⟩, by omega, f1⟩

theorem sn_r {N : mN} (hV : NV N) {a t b : Int} (ht : isT t) : sn N a t b = 1000000 ∨ (0 ≤ sn N a t b ∧ sn N a t b ≤ 1999) := by
  by_cases e : a = b
  · subst e; rw [sn_a]; exact Or.inr ht
  · exact (sn_b hV e (t := t)).imp id (fun z => by omega)
/-- the first of the last ones -/
def Fa (f : mF) (n v : Int) : Prop := (0 ≤ v ∧ v < n) ∧ f v < 1000000 ∧ ∀ s, 0 ≤ s → s < n → f s < 1000000 → f s ≤ f v ∧ (s < v → f s < f v)
theorem Fa.uniq {f : mF} {n v w : Int} (h : Fa f n v) (h' : Fa f n w) : v = w := by
  have h1 := h.2.2 w h'.1.1 h'.1.2 h'.2.1
  have h2 := h'.2.2 v h.1.1 h.1.2 h.2.1
  omega
theorem Fa.congr {f g : mF} {n v : Int} (h : Fa f n v) (e : ∀ s, 0 ≤ s → s < n → g s = f s) : Fa g n v := by
  refine ⟨h.1, by rw [e v h.1.1 h.1.2]; exact h.2.1, fun s s0 s1 hs => ?_⟩
  rw [e s s0 s1] at hs ⊢
  rw [e v h.1.1 h.1.2]
  exact h.2.2 s s0 s1 hs
set_option maxRecDepth 100000 in
set_option maxHeartbeats 1000000 in
theorem Lt_farL (a t : Int) (h : mH) (r : mR) (h1 : mH) (r1 : mR) (q1 : qf h r h1 r1) (ha : 0 ≤ a ∧ a < h 2 1) (hf : h1 49 a < 1000000) (hb : ∀ s, 0 ≤ s → s < h 2 1 → h1 49 s = 1000000 ∨ 0 ≤ h1 49 s ∧ h1 49 s ≤ 1999) (P : Int → Int → Prop) (K : ∀ v, Fa (h1 49) (h 2 1) v → P v 0) : ∀ (M : Nat) (s u w : Int) (z : Option mV), (h 2 1 - s).toNat = M → 0 ≤ s → s ≤ h 2 1 → (w = -1 ∧ u = a ∧ (∀ x, 0 ≤ x → x < s → ¬ h1 49 x < 1000000) ∨ Fa (h1 49) s u ∧ w = h1 49 u) → WP (true, rm 5) m_Lt_farthest (rt m_Lt_farthest (rm 5) (qP h r P)) 51 [some (vR 0), some (vI a), some (vI t), some (vI u), some (vI w), some (vI s), z] [] h1 r1 (0, 0) := by
  intro M
  induction M using Nat.strongRecOn with
  | ind M ih =>
    intro s u w z hM s0 s1 hi
    have hcur := q1.cur
    have e2 := q1.at2 1
    have hS := q1.DV.2.1
    have hbs := hb s s0
    refine wq_iload (i := 5) (q := 53) rfl rfl rfl ?_
    refine wq_aload_n (kk := 0) (q := 54) rfl rfl rfl ?_
    refine wq_getR (q := 57) f_Lt_16 rfl rfl (Or.inl ⟨rfl, Nat.le_of_ble_eq_true rfl⟩) hcur rfl rfl ?_
    refine wq_getI (kz := 1) (q := 60) rfl f_Lt_126 rfl rfl (Or.inl ⟨rfl, Nat.le_of_ble_eq_true rfl⟩) rfl rfl ?_
    refine wq_icmp_ge (tgt := 103) (q := 63) rfl rfl rfl (fun c60 => ?_) (fun c60 => ?_)
    · skip
      refine wq_aload_n (kk := 0) (q := 104) rfl rfl rfl ?_
      refine wq_iload_n (kk := 3) (q := 105) rfl rfl rfl ?_
      refine wq_callV (q := 108) (m' := m_Lt_answer) (R' := rm 1) (As := [_]) rfl rfl l_Lt_113 vm_Lt_answer rfl rfl rfl (Or.inl ⟨rfl, Nat.le_of_ble_eq_true rfl⟩) (Nat.le_of_ble_eq_true rfl) (Nat.le_of_ble_eq_true rfl) (Nat.le_refl _) (Nat.le_refl _) (Nat.le_of_ble_eq_true rfl) (Lt_answer_ok _ h1 r1) rfl ?_
      rintro rv h4 r1 ⟨rfl, rfl, rfl⟩ -
      have e : s = h 2 1 := by omega
      subst e
      refine wq_iret rfl rfl (Nat.le_refl _) (Nat.le_refl _) ⟨_, rfl, ?_, q1.put 0⟩
      rw [hup_s]
      refine K _ ?_
      rcases hi with ⟨-, -, z⟩ | ⟨z, -⟩
      · exact absurd hf (z a ha.1 ha.2)
      · exact z
    · skip
      refine wq_aload_n (kk := 0) (q := 64) rfl rfl rfl ?_
      refine wq_getF (q := 67) f_Lt_58 rfl rfl (Nat.le_of_ble_eq_true rfl) rfl rfl rfl ?_
      refine wq_getF (q := 70) f_Lt_254 rfl rfl (Nat.le_of_ble_eq_true rfl) rfl rfl rfl ?_
      refine wq_iload (i := 5) (q := 72) rfl rfl rfl ?_
      refine wq_iald (q := 73) rfl (Or.inl ⟨rfl, Nat.le_of_ble_eq_true rfl⟩) rfl rfl (by first | omega | (simp [hup]; omega)) (by first | omega | (simp [hup]; omega)) ?_
      refine wq_istore (i := 6) (q := 75) rfl rfl (Nat.le_of_ble_eq_true rfl) rfl ?_
      refine wq_iload (i := 6) (q := 77) rfl rfl rfl ?_
      refine wq_ldcw (n := 1000000) (q := 80) k_Lt_257 rfl rfl rfl ?_
      refine wq_icmp_ge (tgt := 97) (q := 83) rfl rfl rfl (fun c80 => ?_) (fun c80 => ?_)
      · skip
        refine wq_iinc (i := 5) (n := 1) (q := 100) rfl rfl rfl (Nat.le_of_ble_eq_true rfl) rfl (by first | omega | (simp [hup]; omega)) (by first | omega | (simp [hup]; omega)) ?_
        refine wq_goto (tgt := 51) rfl rfl ?_
        refine ih _ ?_ (s + 1) _ _ _ rfl (by omega) (by omega) ?_
        · omega
        · have hh := hbs (by omega)
          first
          | (refine Or.inr ⟨⟨by omega, by omega, fun x x0 x1 hx => ?_⟩, rfl⟩
             by_cases ex : x = s
             · subst ex; omega
             · rcases hi with ⟨z1, z2, z3⟩ | ⟨z1, z2⟩
               · exact absurd hx (z3 x x0 (by omega))
               · have := z1.2.2 x x0 (by omega) hx; omega)
          | (rcases hi with ⟨z1, z2, z3⟩ | ⟨z1, z2⟩
             · refine Or.inl ⟨z1, z2, fun x x0 x1 => ?_⟩
               by_cases ex : x = s
               · subst ex; omega
               · exact z3 x x0 (by omega)
             · refine Or.inr ⟨⟨by have := z1.1; omega, z1.2.1, fun x x0 x1 hx => ?_⟩, z2⟩
               by_cases ex : x = s
               · subst ex; have := z1.1; omega
               · exact z1.2.2 x x0 (by omega) hx)
      · skip
        refine wq_iload (i := 6) (q := 85) rfl rfl rfl ?_
        refine wq_iload (i := 4) (q := 87) rfl rfl rfl ?_
        refine wq_icmp_le (tgt := 97) (q := 90) rfl rfl rfl (fun c87 => ?_) (fun c87 => ?_)
        · skip
          refine wq_iinc (i := 5) (n := 1) (q := 100) rfl rfl rfl (Nat.le_of_ble_eq_true rfl) rfl (by first | omega | (simp [hup]; omega)) (by first | omega | (simp [hup]; omega)) ?_
          refine wq_goto (tgt := 51) rfl rfl ?_
          refine ih _ ?_ (s + 1) _ _ _ rfl (by omega) (by omega) ?_
          · omega
          · have hh := hbs (by omega)
            first
            | (refine Or.inr ⟨⟨by omega, by omega, fun x x0 x1 hx => ?_⟩, rfl⟩
               by_cases ex : x = s
               · subst ex; omega
               · rcases hi with ⟨z1, z2, z3⟩ | ⟨z1, z2⟩
                 · exact absurd hx (z3 x x0 (by omega))
                 · have := z1.2.2 x x0 (by omega) hx; omega)
            | (rcases hi with ⟨z1, z2, z3⟩ | ⟨z1, z2⟩
               · refine Or.inl ⟨z1, z2, fun x x0 x1 => ?_⟩
                 by_cases ex : x = s
                 · subst ex; omega
                 · exact z3 x x0 (by omega)
               · refine Or.inr ⟨⟨by have := z1.1; omega, z1.2.1, fun x x0 x1 hx => ?_⟩, z2⟩
                 by_cases ex : x = s
                 · subst ex; have := z1.1; omega
                 · exact z1.2.2 x x0 (by omega) hx)
        · skip
          refine wq_iload (i := 5) (q := 92) rfl rfl rfl ?_
          refine wq_istore_n (kk := 3) (q := 93) rfl rfl (Nat.le_of_ble_eq_true rfl) rfl ?_
          refine wq_iload (i := 6) (q := 95) rfl rfl rfl ?_
          refine wq_istore (i := 4) (q := 97) rfl rfl (Nat.le_of_ble_eq_true rfl) rfl ?_
          refine wq_iinc (i := 5) (n := 1) (q := 100) rfl rfl rfl (Nat.le_of_ble_eq_true rfl) rfl (by first | omega | (simp [hup]; omega)) (by first | omega | (simp [hup]; omega)) ?_
          refine wq_goto (tgt := 51) rfl rfl ?_
          refine ih _ ?_ (s + 1) _ _ _ rfl (by omega) (by omega) ?_
          · omega
          · have hh := hbs (by omega)
            first
            | (refine Or.inr ⟨⟨by omega, by omega, fun x x0 x1 hx => ?_⟩, rfl⟩
               by_cases ex : x = s
               · subst ex; omega
               · rcases hi with ⟨z1, z2, z3⟩ | ⟨z1, z2⟩
                 · exact absurd hx (z3 x x0 (by omega))
                 · have := z1.2.2 x x0 (by omega) hx; omega)
            | (rcases hi with ⟨z1, z2, z3⟩ | ⟨z1, z2⟩
               · refine Or.inl ⟨z1, z2, fun x x0 x1 => ?_⟩
                 by_cases ex : x = s
                 · subst ex; omega
                 · exact z3 x x0 (by omega)
               · refine Or.inr ⟨⟨by have := z1.1; omega, z1.2.1, fun x x0 x1 hx => ?_⟩, z2⟩
                 by_cases ex : x = s
                 · subst ex; have := z1.1; omega
                 · exact z1.2.2 x x0 (by omega) hx)
set_option maxRecDepth 100000 in
set_option maxHeartbeats 1000000 in
theorem Lt_farthest_ok (a t : Int) (h : mH) (r : mR) (hI : IQ h r) : Meets true (rm 5) m_Lt_farthest [vR 0, vI a, vI t] h r (qP h r (Ans (kP (h 2 1) a a (bI (isT t))) (fun v tr => tr = 0 ∧ Fa (sn (dN h 0) a t) (h 2 1) v))) := by
  have hcur := hI.2.2.2.1
  have q0 := qf.rf hI
  have hV := dN_V hI.1 0
  have hS := hI.1.2.1
  refine ⟨ok_Lt_farthest, Nat.le_of_ble_eq_true rfl, ?_⟩
  refine wq_aload_n (kk := 0) (q := 1) rfl rfl rfl ?_
  refine wq_aload_n (kk := 0) (q := 2) rfl rfl rfl ?_
  refine wq_iload_n (kk := 1) (q := 3) rfl rfl rfl ?_
  refine wq_iload_n (kk := 1) (q := 4) rfl rfl rfl ?_
  refine wq_iload_n (kk := 2) (q := 5) rfl rfl rfl ?_
  refine wq_callS (q := 8) (m' := m_Lt_isTime) (R' := rm 1) (As := [_]) rfl rfl l_Lt_233 sm_Lt_isTime rfl (Nat.le_of_ble_eq_true rfl) (Nat.le_of_ble_eq_true rfl) (Nat.le_refl _) (Nat.le_refl _) (Nat.le_of_ble_eq_true rfl) (Lt_isTime_ok t h r) rfl ?_
  rintro rv h r ⟨rfl, rfl, rfl⟩ -
  refine wq_callV (q := 11) (m' := m_Lt_lookAtPair) (R' := rm 2) (As := [_, _, _]) rfl rfl l_Lt_236 vm_Lt_lookAtPair rfl rfl rfl (Or.inl ⟨rfl, Nat.le_of_ble_eq_true rfl⟩) (Nat.le_of_ble_eq_true rfl) (Nat.le_of_ble_eq_true rfl) (Nat.le_refl _) (Nat.le_refl _) (Nat.le_of_ble_eq_true rfl) (Lt_lookAtPair_ok a a _ h r hcur) rfl ?_
  rintro rv h r ⟨rfl, rfl, rfl⟩ -
  generalize hk : kP (h 2 1) a a (bI (isT t)) = k
  refine wq_callV (q := 14) (m' := m_Lt_isRefused) (R' := rm 1) (As := [_]) rfl rfl l_Lt_240 vm_Lt_isRefused rfl rfl rfl (Or.inl ⟨rfl, Nat.le_of_ble_eq_true rfl⟩) (Nat.le_of_ble_eq_true rfl) (Nat.le_of_ble_eq_true rfl) (Nat.le_refl _) (Nat.le_refl _) (Nat.le_of_ble_eq_true rfl) (Lt_isRefused_ok k h r) rfl ?_
  rintro rv h1 r ⟨rfl, rfl, rfl⟩ -
  have q1 := q0.put k
  refine wq_cif_eq (tgt := 19) (q := 17) rfl rfl rfl (fun c14 => ?_) (fun c14 => ?_)
  · skip
    refine wq_aload_n (kk := 0) (q := 20) rfl rfl rfl ?_
    refine wq_getF (q := 23) f_Lt_44 rfl rfl (Nat.le_of_ble_eq_true rfl) rfl rfl rfl ?_
    refine wq_aload_n (kk := 0) (q := 24) rfl rfl rfl ?_
    refine wq_getR (q := 27) f_Lt_16 rfl rfl (Or.inl ⟨rfl, Nat.le_of_ble_eq_true rfl⟩) hcur rfl rfl ?_
    refine wq_callV (q := 30) (m' := m_Ne_load) (R' := rm 4) (As := [_]) rfl rfl l_Lt_184 vm_Ne_load rfl rfl rfl (Or.inl ⟨rfl, Nat.le_of_ble_eq_true rfl⟩) (Nat.le_of_ble_eq_true rfl) (Nat.le_of_ble_eq_true rfl) (Nat.le_refl _) (Nat.le_refl _) (Nat.le_of_ble_eq_true rfl) (Lt_load q1) rfl ?_
    rintro rv h2 r2 ⟨rfl, q2, w2⟩ -
    have k0 : k = 0 := by simpa using c14
    subst k0
    have hab := kP_0 hk
    have ht := bI_ne hab.2
    refine wq_aload_n (kk := 0) (q := 31) rfl rfl rfl ?_
    refine wq_getF (q := 34) f_Lt_58 rfl rfl (Nat.le_of_ble_eq_true rfl) rfl rfl rfl ?_
    refine wq_aload_n (kk := 0) (q := 35) rfl rfl rfl ?_
    refine wq_getF (q := 38) f_Lt_44 rfl rfl (Nat.le_of_ble_eq_true rfl) rfl rfl rfl ?_
    refine wq_iload_n (kk := 1) (q := 39) rfl rfl rfl ?_
    refine wq_iload_n (kk := 2) (q := 40) rfl rfl rfl ?_
    refine wq_callV (q := 43) (m' := m_Fl_spread) (R' := rm 4) (As := [_, _, _]) rfl rfl l_Lt_250 vm_Fl_spread rfl rfl rfl (Or.inl ⟨rfl, Nat.le_of_ble_eq_true rfl⟩) (Nat.le_of_ble_eq_true rfl) (Nat.le_of_ble_eq_true rfl) (Nat.le_refl _) (Nat.le_refl _) (Nat.le_of_ble_eq_true rfl) (Fl_spread_ok 48 49 50 (Or.inl ⟨rfl, rfl, rfl⟩) (dN h 0) a t h2 r2 w2 hab.1.1) rfl ?_
    rintro rv h3 r2 ⟨rfl, rfl, f3, hs⟩ -
    have q3 := q2.scr f3 (by decide)
    have he : ∀ s, 0 ≤ s → s < h 2 1 → h3 49 s = sn (dN h 0) a t s := fun s s0 s1 => hs.sn hV s0 s1
    refine wq_iload_n (kk := 1) (q := 44) rfl rfl rfl ?_
    refine wq_istore_n (kk := 3) (q := 45) rfl rfl (Nat.le_of_ble_eq_true rfl) rfl ?_
    refine wq_iconst (n := -1) (q := 46) rfl rfl rfl ?_
    refine wq_istore (i := 4) (q := 48) rfl rfl (Nat.le_of_ble_eq_true rfl) rfl ?_
    refine wq_iconst (n := 0) (q := 49) rfl rfl rfl ?_
    refine wq_istore (i := 5) (q := 51) rfl rfl (Nat.le_of_ble_eq_true rfl) rfl ?_
    refine Lt_farL a t h r h3 r2 q3 hab.1.1 (by rw [he a hab.1.1.1 hab.1.1.2, sn_a]; omega) (fun s s0 s1 => by rw [he s s0 s1]; exact sn_r hV ht) _ (fun v hv => Or.inr ⟨rfl, rfl, hv.congr (fun s s0 s1 => (he s s0 s1).symm)⟩) _ 0 a (-1) _ rfl (by omega) (by omega) (Or.inl ⟨rfl, rfl, fun x x0 x1 => by omega⟩)
  · skip
    refine wq_iconst (n := -1) (q := 18) rfl rfl rfl ?_
    exact wq_iret rfl rfl (Nat.le_refl _) (Nat.le_refl _) ⟨_, rfl, Or.inl ⟨c14, rfl, hup_s⟩, q1⟩
/-- the first where both are soonest -/
def mx2 (x y : Int) : Int := if x < y then y else x
def Me (f g : mF) (n v : Int) : Prop := (v = -2 ∧ ∀ s, 0 ≤ s → s < n → ¬ mx2 (f s) (g s) < 1000000) ∨ ((0 ≤ v ∧ v < n) ∧ mx2 (f v) (g v) < 1000000 ∧ ∀ s, 0 ≤ s → s < n → mx2 (f v) (g v) ≤ mx2 (f s) (g s) ∧ (s < v → mx2 (f v) (g v) < mx2 (f s) (g s)))
theorem Me.uniq {f g : mF} {n v w : Int} (h : Me f g n v) (h' : Me f g n w) : v = w := by
  rcases h with ⟨h1, h2⟩ | ⟨h1, h2, h3⟩ <;> rcases h' with ⟨k1, k2⟩ | ⟨k1, k2, k3⟩
  · omega
  · exact absurd k2 (h2 w k1.1 k1.2)
  · exact absurd h2 (k2 v h1.1 h1.2)
  · have h1 := h3 w k1.1 k1.2
    have h2 := k3 v (by omega) (by omega)
    omega
theorem Me.congr {f g f' g' : mF} {n v : Int} (h : Me f g n v) (e : ∀ s, 0 ≤ s → s < n → f' s = f s ∧ g' s = g s) : Me f' g' n v := by
  rcases h with ⟨h1, h2⟩ | ⟨h1, h2, h3⟩
  · exact Or.inl ⟨h1, fun s s0 s1 => by rw [(e s s0 s1).1, (e s s0 s1).2]; exact h2 s s0 s1⟩
  · refine Or.inr ⟨h1, by rw [(e v h1.1 h1.2).1, (e v h1.1 h1.2).2]; exact h2, fun s s0 s1 => ?_⟩
    rw [(e v h1.1 h1.2).1, (e v h1.1 h1.2).2, (e s s0 s1).1, (e s s0 s1).2]
    exact h3 s s0 s1
set_option maxRecDepth 100000 in
set_option maxHeartbeats 1000000 in
theorem Lt_meetL (a b t : Int) (h : mH) (r : mR) (h1 : mH) (r1 : mR) (q1 : qf h r h1 r1) (P : Int → Int → Prop) (K : ∀ v, Me (h1 49) (h1 52) (h 2 1) v → P v 0) : ∀ (M : Nat) (s u w : Int) (z : Option mV), (h 2 1 - s).toNat = M → 0 ≤ s → s ≤ h 2 1 → Me (h1 49) (h1 52) s u → w = (if u = -2 then 1000000 else mx2 (h1 49 u) (h1 52 u)) → WP (true, rm 5) m_Lt_meets (rt m_Lt_meets (rm 5) (qP h r P)) 68 [some (vR 0), some (vI a), some (vI b), some (vI t), some (vI u), some (vI w), some (vI s), z] [] h1 r1 (0, 0) := by
  intro M
  induction M using Nat.strongRecOn with
  | ind M ih =>
    intro s u w z hM s0 s1 hi hw
    have hcur := q1.cur
    have e2 := q1.at2 1
    have hS := q1.DV.2.1
    refine wq_iload (i := 6) (q := 70) rfl rfl rfl ?_
    refine wq_aload_n (kk := 0) (q := 71) rfl rfl rfl ?_
    refine wq_getR (q := 74) f_Lt_16 rfl rfl (Or.inl ⟨rfl, Nat.le_of_ble_eq_true rfl⟩) hcur rfl rfl ?_
    refine wq_getI (kz := 1) (q := 77) rfl f_Lt_126 rfl rfl (Or.inl ⟨rfl, Nat.le_of_ble_eq_true rfl⟩) rfl rfl ?_
    refine wq_icmp_ge (tgt := 126) (q := 80) rfl rfl rfl (fun c77 => ?_) (fun c77 => ?_)
    · skip
      refine wq_aload_n (kk := 0) (q := 127) rfl rfl rfl ?_
      refine wq_iload (i := 4) (q := 129) rfl rfl rfl ?_
      refine wq_callV (q := 132) (m' := m_Lt_answer) (R' := rm 1) (As := [_]) rfl rfl l_Lt_113 vm_Lt_answer rfl rfl rfl (Or.inl ⟨rfl, Nat.le_of_ble_eq_true rfl⟩) (Nat.le_of_ble_eq_true rfl) (Nat.le_of_ble_eq_true rfl) (Nat.le_refl _) (Nat.le_refl _) (Nat.le_of_ble_eq_true rfl) (Lt_answer_ok _ h1 r1) rfl ?_
      rintro rv h4 r1 ⟨rfl, rfl, rfl⟩ -
      have e : s = h 2 1 := by omega
      subst e
      refine wq_iret rfl rfl (Nat.le_refl _) (Nat.le_refl _) ⟨_, rfl, ?_, q1.put 0⟩
      rw [hup_s]
      exact K _ hi
    · skip
      refine wq_aload_n (kk := 0) (q := 81) rfl rfl rfl ?_
      refine wq_getF (q := 84) f_Lt_58 rfl rfl (Nat.le_of_ble_eq_true rfl) rfl rfl rfl ?_
      refine wq_getF (q := 87) f_Lt_254 rfl rfl (Nat.le_of_ble_eq_true rfl) rfl rfl rfl ?_
      refine wq_iload (i := 6) (q := 89) rfl rfl rfl ?_
      refine wq_iald (q := 90) rfl (Or.inl ⟨rfl, Nat.le_of_ble_eq_true rfl⟩) rfl rfl (by first | omega | (simp [hup]; omega)) (by first | omega | (simp [hup]; omega)) ?_
      refine wq_aload_n (kk := 0) (q := 91) rfl rfl rfl ?_
      refine wq_getF (q := 94) f_Lt_62 rfl rfl (Nat.le_of_ble_eq_true rfl) rfl rfl rfl ?_
      refine wq_getF (q := 97) f_Lt_254 rfl rfl (Nat.le_of_ble_eq_true rfl) rfl rfl rfl ?_
      refine wq_iload (i := 6) (q := 99) rfl rfl rfl ?_
      refine wq_iald (q := 100) rfl (Or.inl ⟨rfl, Nat.le_of_ble_eq_true rfl⟩) rfl rfl (by first | omega | (simp [hup]; omega)) (by first | omega | (simp [hup]; omega)) ?_
      refine wq_max (q := 103) k_Lt_258 k_math_max k_math_max_s k_math_i rfl rfl (Nat.le_of_ble_eq_true rfl) (Nat.le_of_ble_eq_true rfl) (Nat.le_refl _) (Nat.le_refl _) (Nat.le_of_ble_eq_true rfl) ?_
      refine wq_istore (i := 7) (q := 105) rfl rfl (Nat.le_of_ble_eq_true rfl) rfl ?_
      refine wq_iload (i := 7) (q := 107) rfl rfl rfl ?_
      refine wq_iload (i := 5) (q := 109) rfl rfl rfl ?_
      refine wq_icmp_ge (tgt := 120) (q := 112) rfl rfl rfl (fun c109 => ?_) (fun c109 => ?_)
      · skip
        refine wq_iinc (i := 6) (n := 1) (q := 123) rfl rfl rfl (Nat.le_of_ble_eq_true rfl) rfl (by first | omega | (simp [hup]; omega)) (by first | omega | (simp [hup]; omega)) ?_
        refine wq_goto (tgt := 68) rfl rfl ?_
        refine ih _ ?_ (s + 1) _ _ _ rfl (by omega) (by omega) ?_ ?_
        · omega
        · change _ at c109
          have c : (mx2 (h1 49 s) (h1 52 s) < w) ∨ ¬ (mx2 (h1 49 s) (h1 52 s) < w) := by omega
          first
          | (have c' : mx2 (h1 49 s) (h1 52 s) < w := by unfold mx2; omega
             refine Or.inr ⟨by omega, ?_, fun x x0 x1 => ?_⟩
             · rcases hi with ⟨z1, z2⟩ | ⟨z1, z2, z3⟩
               · rw [if_pos z1] at hw; omega
               · rw [if_neg (by omega)] at hw; omega
             · by_cases ex : x = s
               · subst ex; omega
               · rcases hi with ⟨z1, z2⟩ | ⟨z1, z2, z3⟩
                 · have := z2 x x0 (by omega); rw [if_pos z1] at hw; omega
                 · have := z3 x x0 (by omega); rw [if_neg (by omega)] at hw; omega)
          | (have c' : ¬ mx2 (h1 49 s) (h1 52 s) < w := by unfold mx2; omega
             rcases hi with ⟨z1, z2⟩ | ⟨z1, z2, z3⟩
             · refine Or.inl ⟨z1, fun x x0 x1 => ?_⟩
               rw [if_pos z1] at hw
               by_cases ex : x = s
               · subst ex; omega
               · exact z2 x x0 (by omega)
             · refine Or.inr ⟨by omega, z2, fun x x0 x1 => ?_⟩
               rw [if_neg (by omega)] at hw
               by_cases ex : x = s
               · subst ex; omega
               · exact z3 x x0 (by omega))
        · first | exact hw | exact (if_neg (show ¬ s = -2 by omega)).symm
      · skip
        refine wq_iload (i := 7) (q := 114) rfl rfl rfl ?_
        refine wq_istore (i := 5) (q := 116) rfl rfl (Nat.le_of_ble_eq_true rfl) rfl ?_
        refine wq_iload (i := 6) (q := 118) rfl rfl rfl ?_
        refine wq_istore (i := 4) (q := 120) rfl rfl (Nat.le_of_ble_eq_true rfl) rfl ?_
        refine wq_iinc (i := 6) (n := 1) (q := 123) rfl rfl rfl (Nat.le_of_ble_eq_true rfl) rfl (by first | omega | (simp [hup]; omega)) (by first | omega | (simp [hup]; omega)) ?_
        refine wq_goto (tgt := 68) rfl rfl ?_
        refine ih _ ?_ (s + 1) _ _ _ rfl (by omega) (by omega) ?_ ?_
        · omega
        · change _ at c109
          have c : (mx2 (h1 49 s) (h1 52 s) < w) ∨ ¬ (mx2 (h1 49 s) (h1 52 s) < w) := by omega
          first
          | (have c' : mx2 (h1 49 s) (h1 52 s) < w := by unfold mx2; omega
             refine Or.inr ⟨by omega, ?_, fun x x0 x1 => ?_⟩
             · rcases hi with ⟨z1, z2⟩ | ⟨z1, z2, z3⟩
               · rw [if_pos z1] at hw; omega
               · rw [if_neg (by omega)] at hw; omega
             · by_cases ex : x = s
               · subst ex; omega
               · rcases hi with ⟨z1, z2⟩ | ⟨z1, z2, z3⟩
                 · have := z2 x x0 (by omega); rw [if_pos z1] at hw; omega
                 · have := z3 x x0 (by omega); rw [if_neg (by omega)] at hw; omega)
          | (have c' : ¬ mx2 (h1 49 s) (h1 52 s) < w := by unfold mx2; omega
             rcases hi with ⟨z1, z2⟩ | ⟨z1, z2, z3⟩
             · refine Or.inl ⟨z1, fun x x0 x1 => ?_⟩
               rw [if_pos z1] at hw
               by_cases ex : x = s
               · subst ex; omega
               · exact z2 x x0 (by omega)
             · refine Or.inr ⟨by omega, z2, fun x x0 x1 => ?_⟩
               rw [if_neg (by omega)] at hw
               by_cases ex : x = s
               · subst ex; omega
               · exact z3 x x0 (by omega))
        · first | exact hw | exact (if_neg (show ¬ s = -2 by omega)).symm
set_option maxRecDepth 100000 in
set_option maxHeartbeats 1000000 in
theorem Lt_meets_ok (a b t : Int) (h : mH) (r : mR) (hI : IQ h r) : Meets true (rm 5) m_Lt_meets [vR 0, vI a, vI b, vI t] h r (qP h r (Ans (kP (h 2 1) a b (bI (isT t))) (fun v tr => tr = 0 ∧ Me (sn (dN h 0) a t) (sn (dN h 0) b t) (h 2 1) v))) := by
  have hcur := hI.2.2.2.1
  have q0 := qf.rf hI
  have hV := dN_V hI.1 0
  have hS := hI.1.2.1
  refine ⟨ok_Lt_meets, Nat.le_of_ble_eq_true rfl, ?_⟩
  refine wq_aload_n (kk := 0) (q := 1) rfl rfl rfl ?_
  refine wq_aload_n (kk := 0) (q := 2) rfl rfl rfl ?_
  refine wq_iload_n (kk := 1) (q := 3) rfl rfl rfl ?_
  refine wq_iload_n (kk := 2) (q := 4) rfl rfl rfl ?_
  refine wq_iload_n (kk := 3) (q := 5) rfl rfl rfl ?_
  refine wq_callS (q := 8) (m' := m_Lt_isTime) (R' := rm 1) (As := [_]) rfl rfl l_Lt_233 sm_Lt_isTime rfl (Nat.le_of_ble_eq_true rfl) (Nat.le_of_ble_eq_true rfl) (Nat.le_refl _) (Nat.le_refl _) (Nat.le_of_ble_eq_true rfl) (Lt_isTime_ok t h r) rfl ?_
  rintro rv h r ⟨rfl, rfl, rfl⟩ -
  refine wq_callV (q := 11) (m' := m_Lt_lookAtPair) (R' := rm 2) (As := [_, _, _]) rfl rfl l_Lt_236 vm_Lt_lookAtPair rfl rfl rfl (Or.inl ⟨rfl, Nat.le_of_ble_eq_true rfl⟩) (Nat.le_of_ble_eq_true rfl) (Nat.le_of_ble_eq_true rfl) (Nat.le_refl _) (Nat.le_refl _) (Nat.le_of_ble_eq_true rfl) (Lt_lookAtPair_ok a b _ h r hcur) rfl ?_
  rintro rv h r ⟨rfl, rfl, rfl⟩ -
  generalize hk : kP (h 2 1) a b (bI (isT t)) = k
  refine wq_callV (q := 14) (m' := m_Lt_isRefused) (R' := rm 1) (As := [_]) rfl rfl l_Lt_240 vm_Lt_isRefused rfl rfl rfl (Or.inl ⟨rfl, Nat.le_of_ble_eq_true rfl⟩) (Nat.le_of_ble_eq_true rfl) (Nat.le_of_ble_eq_true rfl) (Nat.le_refl _) (Nat.le_refl _) (Nat.le_of_ble_eq_true rfl) (Lt_isRefused_ok k h r) rfl ?_
  rintro rv h1 r ⟨rfl, rfl, rfl⟩ -
  have q1 := q0.put k
  refine wq_cif_eq (tgt := 19) (q := 17) rfl rfl rfl (fun c14 => ?_) (fun c14 => ?_)
  · skip
    refine wq_aload_n (kk := 0) (q := 20) rfl rfl rfl ?_
    refine wq_getF (q := 23) f_Lt_44 rfl rfl (Nat.le_of_ble_eq_true rfl) rfl rfl rfl ?_
    refine wq_aload_n (kk := 0) (q := 24) rfl rfl rfl ?_
    refine wq_getR (q := 27) f_Lt_16 rfl rfl (Or.inl ⟨rfl, Nat.le_of_ble_eq_true rfl⟩) hcur rfl rfl ?_
    refine wq_callV (q := 30) (m' := m_Ne_load) (R' := rm 4) (As := [_]) rfl rfl l_Lt_184 vm_Ne_load rfl rfl rfl (Or.inl ⟨rfl, Nat.le_of_ble_eq_true rfl⟩) (Nat.le_of_ble_eq_true rfl) (Nat.le_of_ble_eq_true rfl) (Nat.le_refl _) (Nat.le_refl _) (Nat.le_of_ble_eq_true rfl) (Lt_load q1) rfl ?_
    rintro rv h2 r2 ⟨rfl, q2, w2⟩ -
    have k0 : k = 0 := by simpa using c14
    subst k0
    have hab := kP_0 hk
    have ht := bI_ne hab.2
    refine wq_aload_n (kk := 0) (q := 31) rfl rfl rfl ?_
    refine wq_getF (q := 34) f_Lt_58 rfl rfl (Nat.le_of_ble_eq_true rfl) rfl rfl rfl ?_
    refine wq_aload_n (kk := 0) (q := 35) rfl rfl rfl ?_
    refine wq_getF (q := 38) f_Lt_44 rfl rfl (Nat.le_of_ble_eq_true rfl) rfl rfl rfl ?_
    refine wq_iload_n (kk := 1) (q := 39) rfl rfl rfl ?_
    refine wq_iload_n (kk := 3) (q := 40) rfl rfl rfl ?_
    refine wq_callV (q := 43) (m' := m_Fl_spread) (R' := rm 4) (As := [_, _, _]) rfl rfl l_Lt_250 vm_Fl_spread rfl rfl rfl (Or.inl ⟨rfl, Nat.le_of_ble_eq_true rfl⟩) (Nat.le_of_ble_eq_true rfl) (Nat.le_of_ble_eq_true rfl) (Nat.le_refl _) (Nat.le_refl _) (Nat.le_of_ble_eq_true rfl) (Fl_spread_ok 48 49 50 (Or.inl ⟨rfl, rfl, rfl⟩) (dN h 0) a t h2 r2 w2 hab.1.1) rfl ?_
    rintro rv h3 r2 ⟨rfl, rfl, f3, hs⟩ -
    have q3 := q2.scr f3 (by decide)
    have w3 := w2.fr f3 (by decide)
    have he : ∀ s, 0 ≤ s → s < h 2 1 → h3 49 s = sn (dN h 0) a t s := fun s s0 s1 => hs.sn hV s0 s1
    refine wq_aload_n (kk := 0) (q := 44) rfl rfl rfl ?_
    refine wq_getF (q := 47) f_Lt_62 rfl rfl (Nat.le_of_ble_eq_true rfl) rfl rfl rfl ?_
    refine wq_aload_n (kk := 0) (q := 48) rfl rfl rfl ?_
    refine wq_getF (q := 51) f_Lt_44 rfl rfl (Nat.le_of_ble_eq_true rfl) rfl rfl rfl ?_
    refine wq_iload_n (kk := 2) (q := 52) rfl rfl rfl ?_
    refine wq_iload_n (kk := 3) (q := 53) rfl rfl rfl ?_
    refine wq_callV (q := 56) (m' := m_Fl_spread) (R' := rm 4) (As := [_, _, _]) rfl rfl l_Lt_250 vm_Fl_spread rfl rfl rfl (Or.inl ⟨rfl, Nat.le_of_ble_eq_true rfl⟩) (Nat.le_of_ble_eq_true rfl) (Nat.le_of_ble_eq_true rfl) (Nat.le_refl _) (Nat.le_refl _) (Nat.le_of_ble_eq_true rfl) (Fl_spread_ok 51 52 53 (Or.inr ⟨rfl, rfl, rfl⟩) (dN h 0) b t h3 r2 w3 hab.1.2) rfl ?_
    rintro rv h4 r2 ⟨rfl, rfl, f4, hs4⟩ -
    have q4 := q3.scr f4 (by decide)
    have he4 : ∀ s, 0 ≤ s → s < h 2 1 → h4 52 s = sn (dN h 0) b t s := fun s s0 s1 => hs4.sn hV s0 s1
    refine wq_bipush (n := -2) (q := 58) rfl rfl rfl ?_
    refine wq_istore (i := 4) (q := 60) rfl rfl (Nat.le_of_ble_eq_true rfl) rfl ?_
    refine wq_ldcw (n := 1000000) (q := 63) k_Lt_257 rfl rfl rfl ?_
    refine wq_istore (i := 5) (q := 65) rfl rfl (Nat.le_of_ble_eq_true rfl) rfl ?_
    refine wq_iconst (n := 0) (q := 66) rfl rfl rfl ?_
    refine wq_istore (i := 6) (q := 68) rfl rfl (Nat.le_of_ble_eq_true rfl) rfl ?_
    refine Lt_meetL a b t h r h4 r2 q4 _ (fun v hv => Or.inr ⟨rfl, rfl, hv.congr (fun s s0 s1 => ⟨by rw [f4.at 49 s (by decide)]; exact (he s s0 s1).symm, (he4 s s0 s1).symm⟩)⟩) _ 0 (-2) _ _ rfl (by omega) (by omega) (Or.inl ⟨rfl, fun x x0 x1 => by omega⟩) rfl
  · skip
    refine wq_iconst (n := -1) (q := 18) rfl rfl rfl ?_
    exact wq_iret rfl rfl (Nat.le_refl _) (Nat.le_refl _) ⟨_, rfl, Or.inl ⟨c14, rfl, hup_s⟩, q1⟩

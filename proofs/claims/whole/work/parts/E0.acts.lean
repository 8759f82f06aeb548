/-! THE COUPLING: the acts one by one -/
theorem two_act {m1 m2 : mM} {R1 R2 : Room} {As : List mV} {h : mH} {r : mR} {k : Int} {k' : mH → Int} {F : Int → mH → Prop} {F' : mH → Int → mH → Prop} (C : Cp h r) (hM : Meets true R1 m1 (vR 0 :: As) h r (acQ h r k F)) (hM2 : ∀ h1, h1 66 = h 66 → h1 64 = h 64 → Meets true R2 m2 (vR 64 :: As) h1 r (arQ h1 r (k' h1) (F' h1))) (kk : ∀ h1, h1 66 = h 66 → k' h1 = k) (k4 : k ≠ 4) (hF : ∀ v h1, k = 0 → F v h1 → h1 66 = h 66 ∧ h1 64 = h 64) (hE : ∀ v h1 v' h2, k = 0 → F v h1 → F' h1 v' h2 → v = v' ∧ Cp h2 r) : Two m1 R1 m2 R2 As h r := by
  refine ⟨_, hM, ?_⟩
  rintro rv h1 r1 ⟨v, rfl, rfl, ⟨k0, rfl, rfl⟩ | ⟨k0, f⟩⟩
  · refine ⟨_, hM2 _ (hup_ne (by decide)) (hup_ne (by decide)), ?_⟩
    rintro rv h2 r2 ⟨v', rfl, rfl, ⟨k1, rfl, rfl⟩ | ⟨k1, f'⟩⟩
    · rw [kk _ (hup_ne (by decide))]
      exact ⟨-1, rfl, rfl, Or.inl (C.ref k4)⟩
    · rw [kk _ (hup_ne (by decide))] at k1
      exact absurd k1 k0
  · obtain ⟨a, b⟩ := hF v h1 k0 f
    refine ⟨_, hM2 h1 a b, ?_⟩
    rintro rv h2 r2 ⟨v', rfl, rfl, ⟨k1, rfl, rfl⟩ | ⟨k1, f'⟩⟩
    · rw [kk h1 a] at k1
      exact absurd k0 k1
    · obtain ⟨rfl, c⟩ := hE v h1 v' h2 k0 f f'
      exact ⟨v, rfl, rfl, Or.inl c⟩
theorem kW_z {P Q : Prop} (h : kW P Q = 0) : P ∧ Q := by
  by_cases p : P
  · by_cases q : Q
    · exact ⟨p, q⟩
    · rw [kW_2 p q] at h; omega
  · rw [kW_1 p] at h; omega
theorem kW_4 {P Q : Prop} : kW P Q ≠ 4 := by
  unfold kW
  split
  · decide
  · split <;> decide
theorem put1_k {h h1 : mH} {k : Int} {c : Nat} {i w : Int} (hc : c = 12 ∨ c = 10 ∨ c = 3 ∨ c = 4) (f : put1 h k c i w h1) : h1 66 = h 66 ∧ h1 64 = h 64 := by
  obtain ⟨ha, N1, rfl⟩ := f
  have F := N1.fr
  rw [hup_ne (by decide), hup_ne (by omega), hup_ne (by decide), hup_ne (by omega), F 66 (by decide), F 64 (by decide)]
  exact ⟨rfl, rfl⟩
theorem Cp.rp {h h1 : mH} {r : mR} (C : Cp h r) (a : h1 66 = h 66) (b : h1 64 = h 64) : mI h1 (dN h 0) ∧ 0 ≤ h1 64 10 ∧ h1 64 10 ≤ 10 := ⟨mI_k C.mj a (by rw [b]), by rw [b]; exact C.2.2.2.2.2.2.1⟩
theorem Cp.lb {h : mH} {r : mR} (C : Cp h r) : 0 ≤ h 27 0 ∧ h 27 0 ≤ 10 := by rw [C.2.2.2.2.2.2.2.1]; exact C.2.2.2.2.2.2.1
theorem two_delay (d w : Int) {h : mH} {r : mR} (C : Cp h r) : Two m_Lt_delay (rm 3) m_Mo_delay (rm 4) [vI d, vI w] h r := by
  refine two_act (k' := fun _ => kW (0 ≤ d ∧ d < nN (dN h 0)) (0 ≤ w ∧ w ≤ 99)) (F' := fun h1 v h2 => putR h1 (25 + 8 * d + 5) w h2 ∧ v = h1 66 (25 + 8 * d + 5)) C (Lt_delay_ok d w h r C.1 C.lb) (fun h1 a b => Mo_delay_ok d w (dN h 0) h1 r (C.rp a b).1 (C.rp a b).2) (fun _ _ => rfl) kW_4 (fun v h1 _ f => put1_k (by omega) f.1) ?_
  rintro v h1 v' h2 k0 ⟨⟨ha, N1, rfl⟩, rfl⟩ ⟨⟨hb, Kp, e2⟩, rfl⟩
  obtain ⟨⟨d0, d1⟩, w0⟩ := kW_z k0
  have V4 := C.2.2.2.1.1.2.2.2.2.1
  have x4 : h 2 4 = h 66 4 := C.2.2.1.2.2.2.2.1
  obtain ⟨y3, y4, y5, y6, y7, y8, y9, y10⟩ := C.2.2.1.2.2.2.2.2.2 d d0 (by omega)
  have y8' : h 10 d = h 66 (25 + 8 * d + 5) := y8
  have e66 : hup (hup ha 10 d w) 0 12 0 66 = h 66 := (put1_k (h := h) (k := 1) (c := 10) (by omega) ⟨ha, N1, rfl⟩).1
  have eu : unl ha 1 d w = hup ha 10 d w := by simp [unl]
  refine ⟨by rw [e66]; exact y8', C.put (k := 1) (n := d) (w := w) (b := h 10 d) (ha := ha) d0 (Or.inr (Or.inl ⟨rfl, by omega, w0⟩)) N1 (by rw [eu]; exact Kp) e2 (fun R => by simp [uR]) ?_⟩
  simp only [uR, if_neg (show ¬ (1 : Int) = 0 by decide), if_true, up_up]
  exact up_id y8'
theorem two_change (s w : Int) {h : mH} {r : mR} (C : Cp h r) : Two m_Lt_change (rm 3) m_Mo_change (rm 4) [vI s, vI w] h r := by
  refine two_act (k' := fun _ => kW (0 ≤ s ∧ s < nS (dN h 0)) (0 ≤ w ∧ w ≤ 99)) (F' := fun h1 v h2 => putR h1 (5 + s) w h2 ∧ v = h1 66 (5 + s)) C (Lt_change_ok s w h r C.1 C.lb) (fun h1 a b => Mo_change_ok s w (dN h 0) h1 r (C.rp a b).1 (C.rp a b).2) (fun _ _ => rfl) kW_4 (fun v h1 _ f => put1_k (by omega) f.1) ?_
  rintro v h1 v' h2 k0 ⟨⟨ha, N1, rfl⟩, rfl⟩ ⟨⟨hb, Kp, e2⟩, rfl⟩
  obtain ⟨⟨d0, d1⟩, w0⟩ := kW_z k0
  have V1 := C.2.2.2.1.1.2.1
  have x1 : h 2 1 = h 66 1 := C.2.2.1.2.1
  obtain ⟨y1, y2⟩ := C.2.2.1.2.2.2.2.2.1 s d0 (by omega)
  have y1' : h 3 s = h 66 (5 + s) := y1
  have e66 : hup (hup ha 3 s w) 0 12 0 66 = h 66 := (put1_k (h := h) (k := 2) (c := 3) (by omega) ⟨ha, N1, rfl⟩).1
  have eu : unl ha 2 s w = hup ha 3 s w := by simp [unl]
  refine ⟨by rw [e66]; exact y1', C.put (k := 2) (n := s) (w := w) (b := h 3 s) (ha := ha) d0 (Or.inr (Or.inr (Or.inl ⟨rfl, by omega, w0⟩))) N1 (by rw [eu]; exact Kp) e2 (fun R => by simp [uR]) ?_⟩
  simp only [uR, if_neg (show ¬ (2 : Int) = 0 by decide), if_neg (show ¬ (2 : Int) = 1 by decide), if_true, up_up]
  exact up_id y1'
theorem two_hold (s w : Int) {h : mH} {r : mR} (C : Cp h r) : Two m_Lt_hold (rm 3) m_Mo_hold (rm 4) [vI s, vI w] h r := by
  refine two_act (k' := fun _ => kW (0 ≤ s ∧ s < nS (dN h 0)) (-1 ≤ w ∧ w ≤ 999)) (F' := fun h1 v h2 => putR h1 (15 + s) (if w = -1 then -2 else w) h2 ∧ v = h1 66 (15 + s)) C (Lt_hold_ok s w h r C.1 C.lb) (fun h1 a b => Mo_hold_ok s w (dN h 0) h1 r (C.rp a b).1 (C.rp a b).2) (fun _ _ => rfl) kW_4 (fun v h1 _ f => put1_k (by omega) f.1) ?_
  rintro v h1 v' h2 k0 ⟨⟨ha, N1, rfl⟩, rfl⟩ ⟨⟨hb, Kp, e2⟩, rfl⟩
  obtain ⟨⟨d0, d1⟩, w0⟩ := kW_z k0
  have V1 := C.2.2.2.1.1.2.1
  have x1 : h 2 1 = h 66 1 := C.2.2.1.2.1
  obtain ⟨y1, y2⟩ := C.2.2.1.2.2.2.2.2.1 s d0 (by omega)
  have y2' : h 4 s = h 66 (15 + s) := y2
  have ww : (if w = -1 then -2 else w) = -2 ∨ 0 ≤ (if w = -1 then -2 else w) ∧ (if w = -1 then -2 else w) ≤ 999 := by split <;> omega
  generalize (if w = -1 then -2 else w) = w' at *
  have e66 : hup (hup ha 4 s w') 0 12 0 66 = h 66 := (put1_k (h := h) (k := 3) (c := 4) (by omega) ⟨ha, N1, rfl⟩).1
  have eu : unl ha 3 s w' = hup ha 4 s w' := by simp [unl]
  refine ⟨by rw [e66]; exact y2', C.put (k := 3) (n := s) (w := w') (b := h 4 s) (ha := ha) d0 (Or.inr (Or.inr (Or.inr ⟨rfl, by omega, ww⟩))) N1 (by rw [eu]; exact Kp) e2 (fun R => by simp [uR]) ?_⟩
  simp only [uR, if_neg (show ¬ (3 : Int) = 0 by decide), if_neg (show ¬ (3 : Int) = 1 by decide), if_neg (show ¬ (3 : Int) = 2 by decide), if_true, up_up]
  exact up_id y2'
theorem rn_d (h : mH) (d : Int) : rn (dN h 0) d = 1 - h 12 d := by show (if (0 : Int) = 0 then 1 - h 12 d else 1) = _; rw [if_pos rfl]
theorem kS_4 {n m o d : Int} : kS n m o d ≠ 4 := by
  unfold kS
  split
  · split <;> decide
  · decide
theorem kS_z {n m o d : Int} (h : kS n m o d = 0) : 0 ≤ d ∧ d < n := by
  unfold kS at h
  split at h
  · assumption
  · omega
theorem off_n {h ha : mH} {d o : Int} (NF : fr [27, 28, 29, 30] h ha) (ho : o = 0 ∨ o = 1) : cn (fun e => hup (hup ha 12 d o) 0 12 0 12 e == 0) (hup (hup ha 12 d o) 0 12 0 2 4).toNat = cn (fun e => rn (nRun (dN h 0) d (1 - o)) e == 1) (nN (dN h 0)).toNat := by
  have e : (fun e => hup (hup ha 12 d o) 0 12 0 12 e == 0) = (fun e => rn (nRun (dN h 0) d (1 - o)) e == 1) := by
    funext e
    have z : rn (nRun (dN h 0) d (1 - o)) e = if e = d then 1 - o else rn (dN h 0) e := rfl
    rw [z, hup_i (by decide)]
    by_cases c : e = d
    · subst c
      rw [hup_s, if_pos rfl]
      rcases ho with rfl | rfl <;> rfl
    · rw [hup_j c, if_neg c, NF 12 (by decide)]
      exact (run_b h e).symm
  have e2 : hup (hup ha 12 d o) 0 12 0 2 4 = nN (dN h 0) := by rw [hup_i (by decide), hup_i (by decide), NF 2 (by decide)]; rfl
  rw [e, e2]
theorem off_c {h ha hb h2 : mH} {r : mR} {d o : Int} (C : Cp h r) (ho : o = 0 ∨ o = 1) (d0 : 0 ≤ d) (d1 : d < h 2 4) (N1 : noted h ha 0 d (h 12 d)) (Kp : kpd (x_ref (hup (hup ha 12 d o) 0 12 0) 0) hb) (e2 : h2 = hup hb 66 (25 + 8 * d + 6) (1 - o)) : Cp h2 r := by
  have V4 := C.2.2.2.1.1.2.2.2.2.1
  have x4 : h 2 4 = h 66 4 := C.2.2.1.2.2.2.2.1
  obtain ⟨y3, y4, y5, y6, y7, y8, y9, y10⟩ := C.2.2.1.2.2.2.2.2.2 d d0 (by omega)
  have y10' : h 12 d = 1 - h 66 (25 + 8 * d + 6) := y10
  have w := C.2.2.2.1.1.2.2.2.2.2.2.2 d d0 (by omega)
  have w6 : h 66 (25 + 8 * d + 6) = 0 ∨ h 66 (25 + 8 * d + 6) = 1 := w.2.2.2.2.2.2.2
  have eu : unl ha 0 d o = hup ha 12 d o := by rcases ho with rfl | rfl <;> simp [unl]
  refine C.put (k := 0) (n := d) (w := o) (b := h 12 d) (ha := ha) d0 (Or.inl ⟨rfl, by omega⟩) N1 (by rw [eu]; exact Kp) e2 (fun R => by rcases ho with rfl | rfl <;> simp [uR]) ?_
  simp only [uR, if_true, up_up]
  refine up_id ?_
  rcases w6 with z | z
  · rw [if_pos (by omega)]; omega
  · rw [if_neg (by omega)]; omega
theorem two_cancel (d : Int) {h : mH} {r : mR} (C : Cp h r) : Two m_Lt_cancel (rm 4) m_Mo_cancel (rm 4) [vI d] h r := by
  refine two_act (k' := fun _ => kS (nN (dN h 0)) (1 - rn (dN h 0) d) 1 d) (F' := fun h1 v h2 => putR h1 (25 + 8 * d + 6) 0 h2 ∧ v = cn (fun e => rn (nRun (dN h 0) d 0) e == 1) (nN (dN h 0)).toNat) C (Lt_cancel_ok d h r C.1 C.lb) (fun h1 a b => Mo_cancel_ok d (dN h 0) h1 r (C.rp a b).1 (C.rp a b).2) (fun _ _ => ?_) kS_4 (fun v h1 _ f => put1_k (by omega) f.1) ?_
  · show kS (h 2 4) (1 - rn (dN h 0) d) 1 d = _
    rw [rn_d, show 1 - (1 - h 12 d) = h 12 d by omega]
  rintro v h1 v' h2 k0 ⟨⟨ha, N1, rfl⟩, rfl⟩ ⟨⟨hb, Kp, e2⟩, rfl⟩
  obtain ⟨d0, d1⟩ := kS_z k0
  exact ⟨off_n (o := 1) N1.fr (by omega), off_c (o := 1) C (by omega) d0 d1 N1 Kp e2⟩
theorem two_run (d : Int) {h : mH} {r : mR} (C : Cp h r) : Two m_Lt_run (rm 4) m_Mo_run (rm 4) [vI d] h r := by
  refine two_act (k' := fun _ => kS (nN (dN h 0)) (1 - rn (dN h 0) d) 0 d) (F' := fun h1 v h2 => putR h1 (25 + 8 * d + 6) 1 h2 ∧ v = cn (fun e => rn (nRun (dN h 0) d 1) e == 1) (nN (dN h 0)).toNat) C (Lt_run_ok d h r C.1 C.lb) (fun h1 a b => Mo_run_ok d (dN h 0) h1 r (C.rp a b).1 (C.rp a b).2) (fun _ _ => ?_) kS_4 (fun v h1 _ f => put1_k (by omega) f.1) ?_
  · show kS (h 2 4) (1 - rn (dN h 0) d) 0 d = _
    rw [rn_d, show 1 - (1 - h 12 d) = h 12 d by omega]
  rintro v h1 v' h2 k0 ⟨⟨ha, N1, rfl⟩, rfl⟩ ⟨⟨hb, Kp, e2⟩, rfl⟩
  obtain ⟨d0, d1⟩ := kS_z k0
  exact ⟨off_n (o := 0) N1.fr (by omega), off_c (o := 0) C (by omega) d0 d1 N1 Kp e2⟩

/-! what is told stays right -/
theorem RV_span {R : mF} {v : Int} (h : RV R) (h0 : R 0 = 0) (hv : 1 ≤ v ∧ v ≤ 999) : RV (up R 0 v) := by
  obtain ⟨a0, a1, a2, a3, a4, a5, a6, a7⟩ := h
  have z := a5 h0
  have e0 : up R 0 v 0 = v := up_s
  have e1 : up R 0 v 1 = R 1 := up_n (by decide)
  have e2 : up R 0 v 2 = R 2 := up_n (by decide)
  have e3 : up R 0 v 3 = R 3 := up_n (by decide)
  have e4 : up R 0 v 4 = R 4 := up_n (by decide)
  unfold RV
  rw [e0, e1, e2, e3, e4]
  exact ⟨by omega, a1, a2, a3, a4, fun q => by omega, fun s s0 s1 => by omega, fun d d0 d1 => by omega⟩
theorem dOK_c {R R' : mF} {d : Int} (h : dOK R d) (hd : 0 ≤ d) (h1 : R 1 ≤ R' 1) (h2 : R 2 ≤ R' 2) (he : ∀ j, 25 ≤ j → R' j = R j ∨ 25 + 8 * d + 7 < j) : dOK R' d := by
  have e : ∀ k, 0 ≤ k → k ≤ 7 → R' (25 + 8 * d + k) = R (25 + 8 * d + k) := fun k k0 k1 => (he _ (by omega)).resolve_right (by omega)
  have e0 := e 0 (by omega) (by omega)
  rw [show 25 + 8 * d + 0 = 25 + 8 * d by omega] at e0
  unfold dOK at *
  rw [e0, e 1 (by omega) (by omega), e 2 (by omega) (by omega), e 3 (by omega) (by omega), e 4 (by omega) (by omega), e 5 (by omega) (by omega), e 6 (by omega) (by omega)]
  obtain ⟨b1, b2, b3, b4, b5, b6, b7, b8⟩ := h
  exact ⟨by omega, by omega, by omega, b4, b5, b6, b7, b8⟩
theorem RV_spot {R : mF} {g w : Int} (h : RV R) (h0 : R 0 ≠ 0) (h1 : R 1 < 10) (hg : 0 ≤ g ∧ g ≤ 99) (hw : w = -2 ∨ 0 ≤ w ∧ w ≤ 999) : RV (up (up (up R (5 + R 1) g) (15 + R 1) w) 1 (R 1 + 1)) := by
  obtain ⟨a0, a1, a2, a3, a4, a5, a6, a7⟩ := h
  generalize hR : up (up (up R (5 + R 1) g) (15 + R 1) w) 1 (R 1 + 1) = R'
  have e1 : R' 1 = R 1 + 1 := by rw [← hR, up_s]
  have el : ∀ j, j ≠ 1 → j ≠ 15 + R 1 → j ≠ 5 + R 1 → R' j = R j := fun j x y z => by rw [← hR, up_n x, up_n y, up_n z]
  have ew : R' (15 + R 1) = w := by rw [← hR, up_n (by omega), up_s]
  have eg : R' (5 + R 1) = g := by rw [← hR, up_n (by omega), up_n (by omega), up_s]
  have e0 := el 0 (by omega) (by omega) (by omega)
  have e2 := el 2 (by omega) (by omega) (by omega)
  have e3 := el 3 (by omega) (by omega) (by omega)
  have e4 := el 4 (by omega) (by omega) (by omega)
  refine ⟨by omega, by omega, by omega, by omega, by omega, fun q => by omega, fun s s0 s1 => ?_, fun d d0 d1 => ?_⟩
  · by_cases es : s = R 1
    · subst es; rw [ew, eg]; exact ⟨hg, hw⟩
    · rw [el (5 + s) (by omega) (by omega) (by omega), el (15 + s) (by omega) (by omega) (by omega)]
      exact a6 s s0 (by omega)
  · exact dOK_c (a7 d d0 (by omega)) d0 (by omega) (by omega) (fun j hj => Or.inl (el j (by omega) (by omega) (by omega)))
theorem RV_line {R : mF} (h : RV R) (h0 : R 0 ≠ 0) (h1 : R 2 < 8) : RV (up R 2 (R 2 + 1)) := by
  obtain ⟨a0, a1, a2, a3, a4, a5, a6, a7⟩ := h
  generalize hR : up R 2 (R 2 + 1) = R'
  have e2 : R' 2 = R 2 + 1 := by rw [← hR, up_s]
  have el : ∀ j, j ≠ 2 → R' j = R j := fun j x => by rw [← hR, up_n x]
  have e0 := el 0 (by omega)
  have e1 := el 1 (by omega)
  have e3 := el 3 (by omega)
  have e4 := el 4 (by omega)
  refine ⟨by omega, by omega, by omega, by omega, by omega, fun q => by omega, fun s s0 s1 => ?_, fun d d0 d1 => ?_⟩
  · rw [el (5 + s) (by omega), el (15 + s) (by omega)]
    exact a6 s s0 (by omega)
  · exact dOK_c (a7 d d0 (by omega)) d0 (by omega) (by omega) (fun j hj => Or.inl (el j (by omega)))
theorem RV_link {R : mF} (h : RV R) (h0 : R 0 ≠ 0) (h1 : R 3 < 12) : RV (up R 3 (R 3 + 1)) := by
  obtain ⟨a0, a1, a2, a3, a4, a5, a6, a7⟩ := h
  generalize hR : up R 3 (R 3 + 1) = R'
  have e3 : R' 3 = R 3 + 1 := by rw [← hR, up_s]
  have el : ∀ j, j ≠ 3 → R' j = R j := fun j x => by rw [← hR, up_n x]
  have e0 := el 0 (by omega)
  have e1 := el 1 (by omega)
  have e2 := el 2 (by omega)
  have e4 := el 4 (by omega)
  refine ⟨by omega, by omega, by omega, by omega, by omega, fun q => by omega, fun s s0 s1 => ?_, fun d d0 d1 => ?_⟩
  · rw [el (5 + s) (by omega), el (15 + s) (by omega)]
    exact a6 s s0 (by omega)
  · exact dOK_c (a7 d d0 (by omega)) d0 (by omega) (by omega) (fun j hj => Or.inl (el j (by omega)))
theorem add1_e {R : mF} {l a b t w k : Int} (h4 : 0 ≤ R 4) : (∀ j, j ≠ 4 → j < 25 + 8 * R 4 ∨ 25 + 8 * R 4 + 7 < j → add1 R l a b t w k j = R j) ∧ add1 R l a b t w k 4 = R 4 + 1 ∧ add1 R l a b t w k (25 + 8 * R 4) = l ∧ add1 R l a b t w k (25 + 8 * R 4 + 1) = a ∧ add1 R l a b t w k (25 + 8 * R 4 + 2) = b ∧ add1 R l a b t w k (25 + 8 * R 4 + 3) = t ∧ add1 R l a b t w k (25 + 8 * R 4 + 4) = w ∧ add1 R l a b t w k (25 + 8 * R 4 + 5) = 0 ∧ add1 R l a b t w k (25 + 8 * R 4 + 6) = 1 ∧ add1 R l a b t w k (25 + 8 * R 4 + 7) = k := by
  unfold add1
  refine ⟨fun j x y => ?_, ?_, ?_, ?_, ?_, ?_, ?_, ?_, ?_, ?_⟩
  · rw [up_n x, up_n (by omega), up_n (by omega), up_n (by omega), up_n (by omega), up_n (by omega), up_n (by omega), up_n (by omega), up_n (by omega)]
  · rw [up_s]
  · rw [up_n (by omega), up_n (by omega), up_n (by omega), up_n (by omega), up_n (by omega), up_n (by omega), up_n (by omega), up_n (by omega), up_s]
  · rw [up_n (by omega), up_n (by omega), up_n (by omega), up_n (by omega), up_n (by omega), up_n (by omega), up_n (by omega), up_s]
  · rw [up_n (by omega), up_n (by omega), up_n (by omega), up_n (by omega), up_n (by omega), up_n (by omega), up_s]
  · rw [up_n (by omega), up_n (by omega), up_n (by omega), up_n (by omega), up_n (by omega), up_s]
  · rw [up_n (by omega), up_n (by omega), up_n (by omega), up_n (by omega), up_s]
  · rw [up_n (by omega), up_n (by omega), up_n (by omega), up_s]
  · rw [up_n (by omega), up_n (by omega), up_s]
  · rw [up_n (by omega), up_s]
theorem RV_add {R : mF} {l a b t w k : Int} (h : RV R) (h0 : R 0 ≠ 0) (h4 : R 4 < 120) (hl : 0 ≤ l ∧ l < R 2) (ha : 0 ≤ a ∧ a < R 1) (hb : 0 ≤ b ∧ b < R 1) (hab : a ≠ b) (ht : 0 ≤ t ∧ t ≤ 999) (hw : 1 ≤ w ∧ w ≤ 99) : RV (add1 R l a b t w k) := by
  obtain ⟨a0, a1, a2, a3, a4, a5, a6, a7⟩ := h
  obtain ⟨el, e4, f0, f1, f2, f3, f4, f5, f6, f7⟩ := add1_e (R := R) (l := l) (a := a) (b := b) (t := t) (w := w) (k := k) a4.1
  generalize add1 R l a b t w k = R' at *
  have e0 := el 0 (by omega) (by omega)
  have e1 := el 1 (by omega) (by omega)
  have e2 := el 2 (by omega) (by omega)
  have e3 := el 3 (by omega) (by omega)
  refine ⟨by omega, by omega, by omega, by omega, by omega, fun q => by omega, fun s s0 s1 => ?_, fun d d0 d1 => ?_⟩
  · rw [el (5 + s) (by omega) (by omega), el (15 + s) (by omega) (by omega)]
    exact a6 s s0 (by omega)
  · by_cases ed : d = R 4
    · subst ed
      unfold dOK
      rw [f0, f1, f2, f3, f4, f5, f6, e1, e2]
      exact ⟨hl, ha, hb, hab, ht, hw, by omega, Or.inr rfl⟩
    · refine dOK_c (a7 d d0 (by omega)) d0 (by omega) (by omega) (fun j hj => ?_)
      by_cases z : 25 + 8 * d + 7 < j
      · exact Or.inr z
      · exact Or.inl (el j (by omega) (by omega))
theorem adds_V {l a b w k till ev : Int} (hv : 1 ≤ ev) (ht : till ≤ 999) (hab : a ≠ b) (hw : 1 ≤ w ∧ w ≤ 99) : ∀ (f : Nat) (t : Int) (R : mF), RV R → R 0 ≠ 0 → 0 ≤ t → till - t < (120 - R 4) * ev → (0 ≤ l ∧ l < R 2) → (0 ≤ a ∧ a < R 1) → (0 ≤ b ∧ b < R 1) → RV (adds l a b w k till ev f t R) ∧ ∀ j, j < 4 → adds l a b w k till ev f t R j = R j
  | 0, t, R, hR, _, _, _, _, _, _ => ⟨hR, fun _ _ => rfl⟩
  | f + 1, t, R, hR, h0, t0, hm, hl, ha, hb => by
    by_cases e : t ≤ till
    · have r : adds l a b w k till ev (f + 1) t R = adds l a b w k till ev f (t + ev) (add1 R l a b t w k) := if_pos e
      rw [r]
      have h4 : R 4 < 120 := by
        by_cases z : R 4 < 120
        · exact z
        · have y := Int.mul_nonneg (show 0 ≤ R 4 - 120 by omega) (show 0 ≤ ev by omega)
          have y2 : (120 - R 4) * ev = - ((R 4 - 120) * ev) := by rw [← Int.neg_mul]; congr 1; omega
          omega
      have hA := add1_e (R := R) (l := l) (a := a) (b := b) (t := t) (w := w) (k := k) hR.2.2.2.2.1.1
      have n4 := hR.2.2.2.2.1.1
      have e0 := hA.1 0 (by omega) (by omega)
      have e1 := hA.1 1 (by omega) (by omega)
      have e2 := hA.1 2 (by omega) (by omega)
      have hm' : (120 - (R 4 + 1)) * ev = (120 - R 4) * ev - ev := by rw [show 120 - (R 4 + 1) = 120 - R 4 - 1 by omega, Int.sub_mul, Int.one_mul]
      obtain ⟨i1, i2⟩ := adds_V hv ht hab hw (l := l) (k := k) f (t + ev) (add1 R l a b t w k) (RV_add hR h0 h4 hl ha hb hab (by omega) hw) (by omega) (by omega) (by rw [hA.2.1]; omega) (by omega) (by omega) (by omega)
      exact ⟨i1, fun j hj => (i2 j hj).trans (hA.1 j (by omega) (by omega))⟩
    · have r : adds l a b w k till ev (f + 1) t R = R := if_neg e
      rw [r]
      exact ⟨hR, fun _ _ => rfl⟩
theorem dv_room {x y c : Int} (hx : 0 ≤ x ∧ x ≤ 999) (hy : 1 ≤ y ∧ y ≤ 999) (h : c + dv x y + 1 ≤ 120) : x < (120 - c) * y := by
  rw [dv_eq (by omega) (by omega)] at h
  have h1 := Int.lt_ediv_add_one_mul_self x (show 0 < y by omega)
  have h2 : (x / y + 1) * y ≤ (120 - c) * y := Int.mul_le_mul_of_nonneg_right (by omega) (by omega)
  omega
theorem fd_b {T : mF} {n p : Int} {st : pS} (hV : PV T n st) : (fdS T n st p ≠ -1 → 0 ≤ fdS T n st p ∧ fdS T n st p < st.1 1) ∧ (fdL T n st p ≠ -1 → 0 ≤ fdL T n st p ∧ fdL T n st p < st.1 2) := by
  obtain ⟨⟨-, a1, a2, -⟩, -⟩ := hV
  refine ⟨fun h => ?_, fun h => ?_⟩
  · rcases fdx_s (f := fun i => c27 T n (st.2.1 i)) (c := st.1 1) (v := c27 T n p) a1.1 with ⟨z, -⟩ | ⟨z, -⟩
    · exact absurd z h
    · exact z
  · rcases fdx_s (f := fun i => c27 T n (st.2.2 i)) (c := st.1 2) (v := c27 T n p) a2.1 with ⟨z, -⟩ | ⟨z, -⟩
    · exact absurd z h
    · exact z
theorem tE_p {T : mF} {n p : Int} (h0 : 0 ≤ p) (h : p ≤ n) : 0 ≤ tE T n p ∧ tE T n p ≤ n ∧ p ≤ tE T n p ∧ p ≤ tS T n p ∧ tS T n p ≤ tE T n p := by
  have a := tS_s (T := T) h
  have b := tE_s (T := T) h
  omega
abbrev pOK (T : mF) (n p : Int) (x : pX) : Prop := x.1 = 0 → PV T n x.2.2.2 ∧ p ≤ x.2.2.1 ∧ x.2.2.1 ≤ n
theorem pSpan_V {T : mF} {n p : Int} {st : pS} (p0 : 0 ≤ p) (p1 : p ≤ n) (hV : PV T n st) (h0 : st.1 0 = 0) : pOK T n p (pSpan T n p st) := by
  intro h
  have q1 := tE_p (T := T) p0 p1
  have q2 := tE_p (T := T) q1.1 q1.2.1
  have q3 := tE_p (T := T) q2.1 q2.2.1
  unfold pSpan at h ⊢
  obtain ⟨-, e1⟩ := ch_0 h
  rw [e1] at h ⊢
  obtain ⟨k2, e2⟩ := ch_0 h
  rw [e2]
  have v := xN_0 k2
  have z := hV.1.2.2.2.2.2.1 h0
  refine ⟨⟨RV_span hV.1 h0 v.2, fun s s0 s1 => ?_, fun s s0 s1 => ?_⟩, by dsimp only; omega, q3.2.1⟩
  · have : s < up st.1 0 (c10 T n (tE T n (tE T n p))) 1 := s1
    rw [up_n (by decide)] at this
    omega
  · have : s < up st.1 0 (c10 T n (tE T n (tE T n p))) 2 := s1
    rw [up_n (by decide)] at this
    omega
theorem sSp_V {T : mF} {n p1 p3 w : Int} {st : pS} (hV : PV T n st) (h0 : st.1 0 ≠ 0) (h1 : st.1 1 < 10) (hp : 0 ≤ p1 ∧ p1 ≤ n) (hk : tK T n p1 = 1) (hg : 0 ≤ c10 T n p3 ∧ c10 T n p3 ≤ 99) (hw : w = -2 ∨ 0 ≤ w ∧ w ≤ 999) : PV T n (sSp T n st p1 p3 w) := by
  have b1 := hV.1.2.1
  have e1 : (sSp T n st p1 p3 w).1 1 = st.1 1 + 1 := by
    show up (up (up st.1 (5 + st.1 1) (c10 T n p3)) (15 + st.1 1) w) 1 (st.1 1 + 1) 1 = _
    exact up_s
  have e2 : (sSp T n st p1 p3 w).1 2 = st.1 2 := by
    show up (up (up st.1 (5 + st.1 1) (c10 T n p3)) (15 + st.1 1) w) 1 (st.1 1 + 1) 2 = _
    rw [up_n (by decide), up_n (by omega), up_n (by omega)]
  refine ⟨RV_spot hV.1 h0 h1 hg hw, fun s s0 s1 => ?_, fun s s0 s1 => hV.2.2 s s0 (by omega)⟩
  rw [e1] at s1
  show 0 ≤ up st.2.1 (st.1 1) p1 s ∧ up st.2.1 (st.1 1) p1 s ≤ n ∧ tK T n (up st.2.1 (st.1 1) p1 s) = 1
  by_cases es : s = st.1 1
  · rw [es, up_s]; exact ⟨hp.1, hp.2, hk⟩
  · rw [up_n es]; exact hV.2.1 s s0 (by omega)
theorem pSpot_V {T : mF} {n p : Int} {st : pS} (p0 : 0 ≤ p) (p1 : p ≤ n) (hV : PV T n st) (h0 : st.1 0 ≠ 0) (h1 : st.1 1 < 10) : pOK T n p (pSpot T n p st) := by
  intro h
  have q1 := tE_p (T := T) p0 p1
  have q2 := tE_p (T := T) q1.1 q1.2.1
  have q3 := tE_p (T := T) q2.1 q2.2.1
  have q4 := tE_p (T := T) q3.1 q3.2.1
  have q5 := tE_p (T := T) q4.1 q4.2.1
  have q6 := tE_p (T := T) q5.1 q5.2.1
  unfold pSpot pSpot1 at h ⊢
  obtain ⟨k1, e1⟩ := ch_0 h
  rw [e1] at h ⊢
  obtain ⟨k2, e2⟩ := ch_0 h
  rw [e2] at h ⊢
  obtain ⟨k3, e3⟩ := ch_0 h
  rw [e3] at h ⊢
  have v1 := xA_0 k1
  have v3 := xN_0 k3
  unfold pSpot4 at h ⊢
  by_cases c : bI (Wd T n (tE T n (tE T n (tE T n (tE T n p)))) 6) = 0
  · rw [if_pos c]
    exact ⟨sSp_V hV h0 h1 ⟨q1.1, q1.2.1⟩ v1.1.1 v3.2 (Or.inl rfl), by dsimp only; omega, q4.2.1⟩
  · rw [if_neg c] at h ⊢
    obtain ⟨k4, e4⟩ := ch_0 h
    rw [e4]
    have v4 := xN_0 k4
    exact ⟨sSp_V hV h0 h1 ⟨q1.1, q1.2.1⟩ v1.1.1 v3.2 (Or.inr v4.2), by dsimp only; omega, q6.2.1⟩
theorem pLine_V {T : mF} {n p : Int} {st : pS} (p0 : 0 ≤ p) (p1 : p ≤ n) (hV : PV T n st) (h0 : st.1 0 ≠ 0) (h1 : st.1 2 < 8) : pOK T n p (pLine T n p st) := by
  intro h
  have q1 := tE_p (T := T) p0 p1
  have q2 := tE_p (T := T) q1.1 q1.2.1
  unfold pLine at h ⊢
  obtain ⟨k1, e1⟩ := ch_0 h
  rw [e1]
  have v1 := xA_0 k1
  refine ⟨⟨RV_line hV.1 h0 h1, fun s s0 s1 => ?_, fun s s0 s1 => ?_⟩, by dsimp only; omega, q2.2.1⟩
  · have : s < up st.1 2 (st.1 2 + 1) 1 := s1
    rw [up_n (by decide)] at this
    exact hV.2.1 s s0 this
  · have : s < up st.1 2 (st.1 2 + 1) 2 := s1
    rw [up_s] at this
    show 0 ≤ up st.2.2 (st.1 2) (tE T n p) s ∧ up st.2.2 (st.1 2) (tE T n p) s ≤ n ∧ tK T n (up st.2.2 (st.1 2) (tE T n p) s) = 1
    by_cases es : s = st.1 2
    · rw [es, up_s]; exact ⟨q1.1, q1.2.1, v1.1.1⟩
    · rw [up_n es]; exact hV.2.2 s s0 (by omega)
theorem pLink_V {T : mF} {n p : Int} {st : pS} (p0 : 0 ≤ p) (p1 : p ≤ n) (hV : PV T n st) (h0 : st.1 0 ≠ 0) (h1 : st.1 3 < 12) : pOK T n p (pLink T n p st) := by
  intro h
  have q1 := tE_p (T := T) p0 p1
  have q2 := tE_p (T := T) q1.1 q1.2.1
  have q3 := tE_p (T := T) q2.1 q2.2.1
  have q4 := tE_p (T := T) q3.1 q3.2.1
  have q5 := tE_p (T := T) q4.1 q4.2.1
  have q6 := tE_p (T := T) q5.1 q5.2.1
  have q7 := tE_p (T := T) q6.1 q6.2.1
  have q8 := tE_p (T := T) q7.1 q7.2.1
  have q9 := tE_p (T := T) q8.1 q8.2.1
  have q10 := tE_p (T := T) q9.1 q9.2.1
  have q11 := tE_p (T := T) q10.1 q10.2.1
  have q12 := tE_p (T := T) q11.1 q11.2.1
  unfold pLink pLink1 at h ⊢
  obtain ⟨k1, e1⟩ := ch_0 h
  rw [e1] at h ⊢
  obtain ⟨k2, e2⟩ := ch_0 h
  rw [e2] at h ⊢
  obtain ⟨k3, e3⟩ := ch_0 h
  rw [e3] at h ⊢
  obtain ⟨k4, e4⟩ := ch_0 h
  rw [e4] at h ⊢
  unfold pTimes pTimes1 at h ⊢
  obtain ⟨k5, e5⟩ := ch_0 h
  rw [e5] at h ⊢
  obtain ⟨k6, e6⟩ := ch_0 h
  rw [e6] at h ⊢
  obtain ⟨k7, e7⟩ := ch_0 h
  rw [e7] at h ⊢
  obtain ⟨k8, e8⟩ := ch_0 h
  rw [e8] at h ⊢
  obtain ⟨k9, e9⟩ := ch_0 h
  rw [e9] at h ⊢
  obtain ⟨k10, e10⟩ := ch_0 h
  rw [e10] at h ⊢
  unfold pTimes2 at h ⊢
  obtain ⟨k11, e11⟩ := ch_0 h
  rw [e11] at h ⊢
  obtain ⟨k12, e12⟩ := ch_0 h
  rw [e12] at h ⊢
  obtain ⟨k13, e13⟩ := ch_0 h
  rw [e13]
  have v1 := (fd_b hV).2 (xU_0 k1).2
  have v2 := (fd_b hV).1 (xU_0 k2).2
  have v3 := (fd_b hV).1 (xU_0 k3).2
  have v6 := (xN_0 k6).2
  have v8 := (xN_0 k8).2
  have v10 := (xN_0 k10).2
  have v13 := (xN_0 k13).2
  have b0 := hV.1.1
  have v4 : fdS T n st (tE T n (tE T n p)) ≠ fdS T n st (tE T n (tE T n (tE T n p))) := fun z => by rw [if_pos z.symm] at k4; omega
  have v11 : st.1 4 + dv (c10 T n (tE T n (tE T n (tE T n (tE T n (tE T n (tE T n (tE T n p)))))))  - c10 T n (tE T n (tE T n (tE T n (tE T n (tE T n p)))))) (c10 T n (tE T n (tE T n (tE T n (tE T n (tE T n (tE T n (tE T n (tE T n (tE T n p)))))))))) + 1 ≤ 120 := by
    by_cases z : st.1 4 + dv (c10 T n (tE T n (tE T n (tE T n (tE T n (tE T n (tE T n (tE T n p)))))))  - c10 T n (tE T n (tE T n (tE T n (tE T n (tE T n p)))))) (c10 T n (tE T n (tE T n (tE T n (tE T n (tE T n (tE T n (tE T n (tE T n (tE T n p)))))))))) + 1 ≤ 120
    · exact z
    · rw [if_neg z] at k11; omega
  have hroom := dv_room (by omega) v10 v11
  obtain ⟨w1, w2⟩ := adds_V (k := st.1 3) v10.1 (by omega) v4 v13 2000 _ st.1 hV.1 h0 v6.1 hroom v1 v2 v3
  generalize adds _ _ _ _ _ _ _ 2000 _ st.1 = R' at w1 w2 ⊢
  have r0 := w2 0 (by decide)
  have r1 := w2 1 (by decide)
  have r2 := w2 2 (by decide)
  have r3 := w2 3 (by decide)
  rw [← r3]
  refine ⟨⟨RV_link w1 (by omega) (by omega), fun s s0 s1 => ?_, fun s s0 s1 => ?_⟩, by dsimp only; omega, q12.2.1⟩
  · have : s < up R' 3 (R' 3 + 1) 1 := s1
    rw [up_n (by decide)] at this
    exact hV.2.1 s s0 (by omega)
  · have : s < up R' 3 (R' 3 + 1) 2 := s1
    rw [up_n (by decide)] at this
    exact hV.2.2 s s0 (by omega)
theorem xR_0 {R : mF} {c m : Int} (h : xR R c m = 0) : R 0 ≠ 0 ∧ c < m := by
  unfold xR at h
  split at h
  · omega
  · rename_i a
    split at h
    · rename_i b; exact ⟨a, b⟩
    · omega
theorem pL_V {T : mF} {n p : Int} {st : pS} (p0 : 0 ≤ p) (p1 : p ≤ n) (hV : PV T n st) : pOK T n p (pL T n p st) := by
  intro h
  have b0 := hV.1.1
  unfold pL at h ⊢
  split at h
  · rename_i c
    rw [if_pos c]
    split at h
    · (exfalso; simp at h)
    · rename_i d
      rw [if_neg d]
      exact pSpan_V p0 p1 hV (by omega) h
  · rename_i c
    rw [if_neg c]
    split at h
    · rename_i c1
      rw [if_pos c1]
      obtain ⟨k, e⟩ := ch_0 h
      rw [e] at h ⊢
      exact pSpot_V p0 p1 hV (xR_0 k).1 (xR_0 k).2 h
    · rename_i c1
      rw [if_neg c1]
      split at h
      · rename_i c2
        rw [if_pos c2]
        obtain ⟨k, e⟩ := ch_0 h
        rw [e] at h ⊢
        exact pLine_V p0 p1 hV (xR_0 k).1 (xR_0 k).2 h
      · rename_i c2
        rw [if_neg c2]
        split at h
        · rename_i c3
          rw [if_pos c3]
          obtain ⟨k, e⟩ := ch_0 h
          rw [e] at h ⊢
          exact pLink_V p0 p1 hV (xR_0 k).1 (xR_0 k).2 h
        · (exfalso; simp at h)

/-! STEPS: the pairs of leaves and arrives that no other one beats -/
def Pa (N : mN) (B : Int) (e : mF) (a d : Int) : Prop := dp N d ∧ rn N d = 1 ∧ frm N d = a ∧ e d ≠ B
/-- rising by when one leaves -/
def St (N : mN) (a B : Int) (e t : mF) (Q : Int → Prop) (c : Int) (sl sa sc : mF) : Prop := 0 ≤ c ∧
  (∀ k, 0 ≤ k → k < c → ∃ d, Q d ∧ Pa N B e a d ∧ lv N d = sl k ∧ e d = sa k ∧ t d = sc k) ∧
  (∀ k j, 0 ≤ k → k < j → j < c → sl k < sl j ∧ sa k < sa j) ∧
  ∀ d, Q d → Pa N B e a d → ∃ k, 0 ≤ k ∧ k < c ∧ lv N d ≤ sl k ∧ sa k ≤ e d ∧ (sl k = lv N d → sa k = e d → sc k ≤ t d)
theorem St.mono {N : mN} {a B : Int} {e t : mF} {Q : Int → Prop} {c : Int} {sl sa sc : mF} (h : St N a B e t Q c sl sa sc) {k j : Int} (k0 : 0 ≤ k) (k1 : k < c) (j0 : 0 ≤ j) (j1 : j < c) : (sl k ≤ sl j → k ≤ j) ∧ (sa k ≤ sa j → k ≤ j) := by
  refine ⟨fun z => ?_, fun z => ?_⟩
  · rcases (show k ≤ j ∨ j < k by omega) with q | q
    · exact q
    · have := (h.2.2.1 j k j0 q k1).1; omega
  · rcases (show k ≤ j ∨ j < k by omega) with q | q
    · exact q
    · have := (h.2.2.1 j k j0 q k1).2; omega
theorem St.half {N : mN} {a B B' : Int} {e t e' t' : mF} {c c' : Int} {sl sa sc sl' sa' sc' : mF} (h : St N a B e t (fun _ => True) c sl sa sc) (h' : St N a B' e' t' (fun _ => True) c' sl' sa' sc')
    (hE : ∀ d, Pa N B e a d → Pa N B' e' a d ∧ e' d = e d ∧ t' d = t d) (hE' : ∀ d, Pa N B' e' a d → Pa N B e a d ∧ e d = e' d ∧ t d = t' d) {k : Int} (k0 : 0 ≤ k) (k1 : k < c) : ∃ j, 0 ≤ j ∧ j < c' ∧ sl' j = sl k ∧ sa' j = sa k ∧ sc' j = sc k := by
  obtain ⟨d, -, d1, d2, d3, d4⟩ := h.2.1 k k0 k1
  obtain ⟨y1, y2, y3⟩ := hE d d1
  obtain ⟨j, j0, j1, j2, j3, j4⟩ := h'.2.2.2 d trivial y1
  obtain ⟨g, -, g1, g2, g3, g4⟩ := h'.2.1 j j0 j1
  obtain ⟨z1, z2, z3⟩ := hE' g g1
  obtain ⟨i, i0, i1, i2, i3, i4⟩ := h.2.2.2 g trivial z1
  have m1 := (h.mono k0 k1 i0 i1).1 (by omega)
  have m2 := (h.mono i0 i1 k0 k1).2 (by omega)
  have e1 : i = k := by omega
  subst e1
  have q1 := j4 (by omega) (by omega)
  have q2 := i4 (by omega) (by omega)
  exact ⟨j, j0, j1, by omega, by omega, by omega⟩
theorem St.uniq {N : mN} {a B B' : Int} {e t e' t' : mF} {c c' : Int} {sl sa sc sl' sa' sc' : mF} (h : St N a B e t (fun _ => True) c sl sa sc) (h' : St N a B' e' t' (fun _ => True) c' sl' sa' sc')
    (hE : ∀ d, Pa N B e a d → Pa N B' e' a d ∧ e' d = e d ∧ t' d = t d) (hE' : ∀ d, Pa N B' e' a d → Pa N B e a d ∧ e d = e' d ∧ t d = t' d) : ∀ (m : Nat) (k : Int), k.toNat = m → 0 ≤ k → k < c → k < c' ∧ sl' k = sl k ∧ sa' k = sa k ∧ sc' k = sc k := by
  intro m
  induction m using Nat.strongRecOn with
  | ind m ih =>
    intro k hm k0 k1
    obtain ⟨j, j0, j1, j2, j3, j4⟩ := St.half h h' hE hE' k0 k1
    have hjk : k ≤ j := by
      rcases (show k ≤ j ∨ j < k by omega) with q | q
      · exact q
      · have := ih _ (by omega) j rfl j0 (by omega)
        have := (h.2.2.1 j k j0 q k1).1
        omega
    obtain ⟨i, i0, i1, i2, i3, i4⟩ := St.half h' h hE' hE k0 (show k < c' by omega)
    have hik : k ≤ i := by
      rcases (show k ≤ i ∨ i < k by omega) with q | q
      · exact q
      · have y := ih _ (by omega) i rfl i0 (by omega)
        have := (h'.2.2.1 i k i0 q (by omega)).1
        omega
    have hki : i ≤ k := by
      refine (h.mono i0 i1 k0 k1).1 ?_
      rcases (show k < j ∨ k = j by omega) with q | q
      · have := (h'.2.2.1 k j k0 q j1).1; omega
      · subst q; omega
    have e1 : i = k := by omega
    subst e1
    exact ⟨by omega, by omega, by omega, by omega⟩
theorem St.eq {N : mN} {a B B' : Int} {e t e' t' : mF} {c c' : Int} {sl sa sc sl' sa' sc' : mF} (h : St N a B e t (fun _ => True) c sl sa sc) (h' : St N a B' e' t' (fun _ => True) c' sl' sa' sc')
    (hE : ∀ d, Pa N B e a d → Pa N B' e' a d ∧ e' d = e d ∧ t' d = t d) (hE' : ∀ d, Pa N B' e' a d → Pa N B e a d ∧ e d = e' d ∧ t d = t' d) : c' = c ∧ ∀ k, 0 ≤ k → k < c → sl' k = sl k ∧ sa' k = sa k ∧ sc' k = sc k := by
  have h0 := h.1
  have h0' := h'.1
  refine ⟨?_, fun k k0 k1 => (St.uniq h h' hE hE' _ k rfl k0 k1).2⟩
  rcases (show c' = c ∨ c' < c ∨ c < c' by omega) with q | q | q
  · exact q
  · have := (St.uniq h h' hE hE' _ c' rfl h0' q).1; omega
  · have := (St.uniq h' h hE' hE _ c rfl h0 q).1; omega
theorem Lab.pa {N : mN} (hV : NV N) {b B B' : Int} {e t l x e' t' l' x' : mF} (hB : 1700 < B) (hB' : 1700 < B') (h : Lab N b B e t l x) (h' : Lab N b B' e' t' l' x') {a d : Int} (hd : Pa N B e a d) : Pa N B' e' a d ∧ e' d = e d ∧ t' d = t d := by
  rcases Lab.eq hV hB hB' h h' hd.1 hd.2.1 with z | z
  · exact absurd z.1 hd.2.2.2
  · exact ⟨⟨hd.1, hd.2.1, hd.2.2.1, z.2.1⟩, z.2.2.1, z.2.2.2.1⟩
/-- the steps from a to b -/
def Sps (N : mN) (a b : Int) (c : Int) (sl sa sc : mF) : Prop := ∃ B e t l x, Lab N b B e t l x ∧ 1700 < B ∧ St N a B e t (fun _ => True) c sl sa sc
theorem Sps.eq {N : mN} (hV : NV N) {a b c c' : Int} {sl sa sc sl' sa' sc' : mF} (h : Sps N a b c sl sa sc) (h' : Sps N a b c' sl' sa' sc') : c' = c ∧ ∀ k, 0 ≤ k → k < c → sl' k = sl k ∧ sa' k = sa k ∧ sc' k = sc k := by
  obtain ⟨B, e, t, l, x, h1, h2, h3⟩ := h
  obtain ⟨B', e', t', l', x', k1, k2, k3⟩ := h'
  exact St.eq h3 k3 (fun d hd => Lab.pa hV h2 k2 h1 k1 hd) (fun d hd => Lab.pa hV k2 h2 k1 h1 hd)
/-- the other way round: the latest first -/
def StR (N : mN) (a B : Int) (e t : mF) (Q : Int → Prop) (c : Int) (sl sa sc : mF) : Prop := 0 ≤ c ∧
  (∀ k, 0 ≤ k → k < c → ∃ d, Q d ∧ Pa N B e a d ∧ lv N d = sl k ∧ e d = sa k ∧ t d = sc k) ∧
  (∀ k j, 0 ≤ k → k < j → j < c → sl j < sl k ∧ sa j < sa k) ∧
  ∀ d, Q d → Pa N B e a d → ∃ k, 0 ≤ k ∧ k < c ∧ lv N d ≤ sl k ∧ sa k ≤ e d ∧ (sl k = lv N d → sa k = e d → sc k ≤ t d)
theorem StR.rev {N : mN} {a B : Int} {e t : mF} {Q : Int → Prop} {c : Int} {sl sa sc : mF} (h : StR N a B e t Q c sl sa sc) : St N a B e t Q c (fun k => sl (c - 1 - k)) (fun k => sa (c - 1 - k)) (fun k => sc (c - 1 - k)) := by
  refine ⟨h.1, fun k k0 k1 => h.2.1 _ (by omega) (by omega), fun k j k0 kj j1 => h.2.2.1 _ _ (by omega) (by omega) (by omega), fun d hq hp => ?_⟩
  obtain ⟨k, k0, k1, z⟩ := h.2.2.2 d hq hp
  refine ⟨c - 1 - k, by omega, by omega, ?_⟩
  have e1 : c - 1 - (c - 1 - k) = k := by omega
  simp only [e1]
  exact z
theorem StR.dom {N : mN} {a B : Int} {e t : mF} {Q : Int → Prop} {c : Int} {sl sa sc : mF} (h : StR N a B e t Q c sl sa sc) {d0 : Int} (hp : Pa N B e a d0) (hQ : ∀ d, Q d → lv N d0 ≤ lv N d) (hc : 0 < c) (h1 : sa (c - 1) ≤ e d0) (h2 : ¬ (sl (c - 1) = lv N d0 ∧ e d0 = sa (c - 1))) : StR N a B e t (fun d => Q d ∨ d = d0) c sl sa sc := by
  refine ⟨h.1, fun k k0 k1 => ?_, h.2.2.1, fun d hd hpd => ?_⟩
  · obtain ⟨d, d0, d1⟩ := h.2.1 k k0 k1
    exact ⟨d, Or.inl d0, d1⟩
  · rcases hd with hd | rfl
    · exact h.2.2.2 d hd hpd
    · obtain ⟨g, g1, g2, g3, -⟩ := h.2.1 (c - 1) (by omega) (by omega)
      have := hQ g g1
      exact ⟨c - 1, by omega, by omega, by omega, h1, fun z1 z2 => absurd ⟨z1, z2.symm⟩ h2⟩
theorem StR.same {N : mN} {a B : Int} {e t : mF} {Q : Int → Prop} {c : Int} {sl sa sc sc' : mF} (h : StR N a B e t Q c sl sa sc) {d0 : Int} (hp : Pa N B e a d0) (hc : 0 < c) (h1 : sl (c - 1) = lv N d0) (h2 : e d0 = sa (c - 1)) (h3 : ∀ k, 0 ≤ k → k < c - 1 → sc' k = sc k) (h4 : sc' (c - 1) = if t d0 < sc (c - 1) then t d0 else sc (c - 1)) : StR N a B e t (fun d => Q d ∨ d = d0) c sl sa sc' := by
  refine ⟨h.1, fun k k0 k1 => ?_, h.2.2.1, fun d hd hpd => ?_⟩
  · obtain ⟨d, q0, q1, q2, q3, q4⟩ := h.2.1 k k0 k1
    by_cases e1 : k = c - 1
    · subst e1
      by_cases z : t d0 < sc (c - 1)
      · rw [if_pos z] at h4
        exact ⟨d0, Or.inr rfl, hp, h1.symm, h2, h4.symm⟩
      · rw [if_neg z] at h4
        exact ⟨d, Or.inl q0, q1, q2, q3, by rw [h4]; exact q4⟩
    · exact ⟨d, Or.inl q0, q1, q2, q3, by rw [h3 k k0 (by omega)]; exact q4⟩
  · rcases hd with hd | rfl
    · obtain ⟨k, k0, k1, k2, k3, k4⟩ := h.2.2.2 d hd hpd
      refine ⟨k, k0, k1, k2, k3, fun z1 z2 => ?_⟩
      have := k4 z1 z2
      by_cases e1 : k = c - 1
      · subst e1; rw [h4]; split <;> omega
      · rw [h3 k k0 (by omega)]; exact this
    · refine ⟨c - 1, by omega, by omega, by omega, by omega, fun _ _ => ?_⟩
      rw [h4]; split <;> omega
theorem StR.repl {N : mN} {a B : Int} {e t : mF} {Q : Int → Prop} {c : Int} {sl sa sc sl' sa' sc' : mF} (h : StR N a B e t Q c sl sa sc) {d0 : Int} (hp : Pa N B e a d0) (hc : 0 < c) (h1 : sl (c - 1) = lv N d0) (h2 : e d0 < sa (c - 1)) (h3 : ∀ k, 0 ≤ k → k < c - 1 → sl' k = sl k ∧ sa' k = sa k ∧ sc' k = sc k) (h4 : sl' (c - 1) = lv N d0 ∧ sa' (c - 1) = e d0 ∧ sc' (c - 1) = t d0) : StR N a B e t (fun d => Q d ∨ d = d0) c sl' sa' sc' := by
  refine ⟨h.1, fun k k0 k1 => ?_, fun k j k0 kj j1 => ?_, fun d hd hpd => ?_⟩
  · by_cases e1 : k = c - 1
    · subst e1
      exact ⟨d0, Or.inr rfl, hp, h4.1.symm, h4.2.1.symm, h4.2.2.symm⟩
    · obtain ⟨d, q0, q1, q2, q3, q4⟩ := h.2.1 k k0 k1
      have := h3 k k0 (by omega)
      exact ⟨d, Or.inl q0, q1, by rw [this.1]; exact q2, by rw [this.2.1]; exact q3, by rw [this.2.2]; exact q4⟩
  · have y := h.2.2.1 k j k0 kj j1
    have hk := h3 k k0 (by omega)
    by_cases e1 : j = c - 1
    · subst e1; omega
    · have := h3 j (by omega) (by omega); omega
  · rcases hd with hd | rfl
    · obtain ⟨k, k0, k1, k2, k3, k4⟩ := h.2.2.2 d hd hpd
      by_cases e1 : k = c - 1
      · subst e1
        exact ⟨c - 1, by omega, by omega, by omega, by omega, fun z1 z2 => by omega⟩
      · have := h3 k k0 (by omega)
        refine ⟨k, k0, k1, by omega, by omega, ?_⟩
        rw [this.1, this.2.1, this.2.2]
        exact k4
    · exact ⟨c - 1, by omega, by omega, by omega, by omega, fun _ _ => by omega⟩
theorem StR.push {N : mN} {a B : Int} {e t : mF} {Q : Int → Prop} {c : Int} {sl sa sc sl' sa' sc' : mF} (h : StR N a B e t Q c sl sa sc) {d0 : Int} (hp : Pa N B e a d0) (h1 : 0 < c → lv N d0 < sl (c - 1) ∧ e d0 < sa (c - 1)) (h3 : ∀ k, 0 ≤ k → k < c → sl' k = sl k ∧ sa' k = sa k ∧ sc' k = sc k) (h4 : sl' c = lv N d0 ∧ sa' c = e d0 ∧ sc' c = t d0) : StR N a B e t (fun d => Q d ∨ d = d0) (c + 1) sl' sa' sc' := by
  have h0 := h.1
  refine ⟨by omega, fun k k0 k1 => ?_, fun k j k0 kj j1 => ?_, fun d hd hpd => ?_⟩
  · by_cases e1 : k = c
    · subst e1
      exact ⟨d0, Or.inr rfl, hp, h4.1.symm, h4.2.1.symm, h4.2.2.symm⟩
    · obtain ⟨d, q0, q1, q2, q3, q4⟩ := h.2.1 k k0 (by omega)
      have := h3 k k0 (by omega)
      exact ⟨d, Or.inl q0, q1, by rw [this.1]; exact q2, by rw [this.2.1]; exact q3, by rw [this.2.2]; exact q4⟩
  · have hk := h3 k k0 (by omega)
    by_cases e1 : j = c
    · subst e1
      have z := h1 (by omega)
      by_cases e2 : k = j - 1
      · subst e2; omega
      · have y := h.2.2.1 k (j - 1) k0 (by omega) (by omega)
        omega
    · have y := h.2.2.1 k j k0 kj (by omega)
      have := h3 j (by omega) (by omega); omega
  · rcases hd with hd | rfl
    · obtain ⟨k, k0, k1, k2, k3, k4⟩ := h.2.2.2 d hd hpd
      have := h3 k k0 (by omega)
      refine ⟨k, k0, by omega, by omega, by omega, ?_⟩
      rw [this.1, this.2.1, this.2.2]
      exact k4
    · exact ⟨c, by omega, by omega, by omega, by omega, fun _ _ => by omega⟩

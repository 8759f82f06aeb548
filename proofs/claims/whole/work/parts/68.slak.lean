/-! a departure that doesn't run, or leaves later -/
theorem mN_eta (N : mN) : (nN N, nS N, lv N, ar N, frm N, dst N, ln N, rn N, gp N, pt N) = N := rfl
theorem nRun_back (N : mN) (d v : Int) : nRun (nRun N d v) d (rn N d) = N := by
  show (nN N, nS N, lv N, ar N, frm N, dst N, ln N, (fun x => if x = d then rn N d else if x = d then v else rn N x), gp N, pt N) = N
  have e : (fun x => if x = d then rn N d else if x = d then v else rn N x) = rn N := by
    funext x
    by_cases h : x = d
    · rw [if_pos h, h]
    · rw [if_neg h, if_neg h]
  rw [e]
theorem nLate_0 (N : mN) (d : Int) : nLate N d 0 = N := by
  show (nN N, nS N, (fun x => if x = d then lv N x + 0 else lv N x), (fun x => if x = d then ar N x + 0 else ar N x), frm N, dst N, ln N, rn N, gp N, pt N) = N
  have e1 : (fun x => if x = d then lv N x + 0 else lv N x) = lv N := by funext x; split <;> omega
  have e2 : (fun x => if x = d then ar N x + 0 else ar N x) = ar N := by funext x; split <;> omega
  rw [e1, e2]
theorem nLate_s (N : mN) (d k : Int) : nLate (nLate N d k) d 1 = nLate N d (k + 1) := by
  show (nN N, nS N, (fun x => if x = d then (if x = d then lv N x + k else lv N x) + 1 else (if x = d then lv N x + k else lv N x)), (fun x => if x = d then (if x = d then ar N x + k else ar N x) + 1 else (if x = d then ar N x + k else ar N x)), frm N, dst N, ln N, rn N, gp N, pt N) = (nN N, nS N, (fun x => if x = d then lv N x + (k + 1) else lv N x), (fun x => if x = d then ar N x + (k + 1) else ar N x), frm N, dst N, ln N, rn N, gp N, pt N)
  have e1 : (fun x => if x = d then (if x = d then lv N x + k else lv N x) + 1 else (if x = d then lv N x + k else lv N x)) = (fun x => if x = d then lv N x + (k + 1) else lv N x) := by funext x; split <;> omega
  have e2 : (fun x => if x = d then (if x = d then ar N x + k else ar N x) + 1 else (if x = d then ar N x + k else ar N x)) = (fun x => if x = d then ar N x + (k + 1) else ar N x) := by funext x; split <;> omega
  rw [e1, e2]
theorem nRun_0 {N : mN} {d : Int} {e : Int} (h : rn (nRun N d 0) e = 1) : e ≠ d ∧ rn N e = 1 := by
  have h' : (if e = d then 0 else rn N e) = 1 := h
  split at h'
  · omega
  · rename_i z; exact ⟨z, h'⟩
theorem sn_late {N : mN} (hV : NV N) {d k : Int} (hV' : NV (nLate N d k)) (a t b : Int) : sn (nLate N d k) a t b ≤ sn (nRun N d 0) a t b := by
  by_cases hab : a = b
  · subst hab; rw [sn_a, sn_a]; exact Int.le_refl _
  have l : ∀ x, x ≠ d → lv (nLate N d k) x = lv N x := fun x hx => if_neg hx
  have r : ∀ x, x ≠ d → ar (nLate N d k) x = ar N x := fun x hx => if_neg hx
  have hc : ∀ x, Cau (nRun N d 0) a t x → x ≠ d → Cau (nLate N d k) a t x := fun x hx => hx (fun x => x ≠ d → Cau (nLate N d k) a t x) ⟨fun y y1 y2 y3 y4 => (Cau.clo _ a t).1 y y1 y2 (by rw [l y y4]; exact y3), fun e y e1 e2 e3 e4 e5 e6 e7 => by
    have hne := nRun_0 e2
    refine (Cau.clo _ a t).2 e y e1 hne.2 (e3 hne.1) ?_ e5 e6
    unfold J at e4 ⊢
    rw [l y e7, r e hne.1]
    exact e4⟩
  refine sn_le (nRun_V hV (Or.inl rfl)) hV' hab (fun e he => ?_)
  have hne := nRun_0 he.2.1
  exact ⟨e, ⟨he.1, hne.2, hc e he.2.2.1 hne.1, he.2.2.2⟩, by rw [r e hne.1]; exact Int.le_refl _⟩
/-- how much later a departure may leave -/
def Sla (N : mN) (a b t d v : Int) : Prop := (sn N a t b = 1000000 ∧ v = -2) ∨ (sn N a t b ≠ 1000000 ∧ (0 ≤ v ∧ v ≤ 99) ∧ (∀ k, 1 ≤ k → k ≤ v → sn (nLate N d k) a t b ≤ sn N a t b) ∧ (v = 99 ∨ sn N a t b < sn (nLate N d (v + 1)) a t b))
theorem Sla.uniq {N : mN} {a b t d v w : Int} (h : Sla N a b t d v) (h' : Sla N a b t d w) : v = w := by
  rcases h with h | ⟨h0, h1, h2, h3⟩ <;> rcases h' with h' | ⟨k0, k1, k2, k3⟩
  · omega
  · exact absurd h.1 k0
  · exact absurd h'.1 h0
  · by_cases e : v < w
    · have := k2 (v + 1) (by omega) (by omega)
      omega
    · by_cases e2 : w < v
      · have := h2 (w + 1) (by omega) (by omega)
        omega
      · omega

/-! when one can be soonest somewhere: there is such a row, and only one -/
def Clo (N : mN) (a t : Int) (P : Int → Prop) : Prop := (∀ d, dp N d → frm N d = a → t ≤ lv N d → P d) ∧ ∀ e d, dp N e → rn N e = 1 → P e → J N e d → dp N d → frm N d = dst N e → P d
def Cau (N : mN) (a t : Int) (d : Int) : Prop := ∀ P : Int → Prop, Clo N a t P → P d
theorem Cau.clo (N : mN) (a t : Int) : Clo N a t (Cau N a t) := ⟨fun d h1 h2 h3 P hP => hP.1 d h1 h2 h3, fun e d h1 h2 h3 h4 h5 h6 P hP => hP.2 e d h1 h2 (h3 P hP) h4 h5 h6⟩
theorem Cau.inv {N : mN} {a t d : Int} (h : Cau N a t d) : dp N d ∧ ((frm N d = a ∧ t ≤ lv N d) ∨ ∃ e, dp N e ∧ rn N e = 1 ∧ Cau N a t e ∧ J N e d ∧ frm N d = dst N e) := by
  have := h (fun d => Cau N a t d ∧ dp N d ∧ ((frm N d = a ∧ t ≤ lv N d) ∨ ∃ e, dp N e ∧ rn N e = 1 ∧ Cau N a t e ∧ J N e d ∧ frm N d = dst N e)) ⟨fun d h1 h2 h3 => ⟨(Cau.clo N a t).1 d h1 h2 h3, h1, Or.inl ⟨h2, h3⟩⟩, fun e d h1 h2 h3 h4 h5 h6 => ⟨(Cau.clo N a t).2 e d h1 h2 h3.1 h4 h5 h6, h5, Or.inr ⟨e, h1, h2, h3.1, h4, h6⟩⟩⟩
  exact this.2
theorem Ct.cau {N : mN} {a t : Int} {c : mF} (hV : NV N) (hc : Ct N a t c) {d : Int} (hd : dp N d) : c d = 1 ↔ Cau N a t d := by
  refine ⟨?_, fun h => h (fun d => dp N d → c d = 1) ⟨fun d h1 h2 h3 _ => (hc d h1).1.2 (Or.inl ⟨h2, h3⟩), fun e d h1 h2 h3 h4 h5 h6 _ => (hc d h5).1.2 (Or.inr ⟨e, h1, h2, h3 h1, h4, h6⟩)⟩ hd⟩
  have : ∀ (k : Nat) (d : Int), dp N d → (lv N d).toNat = k → c d = 1 → Cau N a t d := by
    intro k
    induction k using Nat.strongRecOn with
    | ind k ih =>
      intro d hd hk h1
      rcases (hc d hd).1.1 h1 with ⟨z1, z2⟩ | ⟨e, e1, e2, e3, e4, e5⟩
      · exact (Cau.clo N a t).1 d hd z1 z2
      · have := J.lt hV e1 e4
        have v := hV.2.2.1 e e1
        exact (Cau.clo N a t).2 e d e1 e2 (ih _ (by omega) e e1 rfl e3) e4 hd e5
  exact this _ d hd rfl
/-- a departure that one can have ridden to b -/
def Rd (N : mN) (a t b e : Int) : Prop := dp N e ∧ rn N e = 1 ∧ Cau N a t e ∧ dst N e = b
def Sv (N : mN) (a t b v : Int) : Prop := (v = 1000000 ∨ ∃ e, Rd N a t b e ∧ v = ar N e) ∧ ∀ e, Rd N a t b e → v ≤ ar N e
theorem Sv.uniq {N : mN} (hV : NV N) {a t b v w : Int} (h : Sv N a t b v) (h' : Sv N a t b w) : v = w := by
  rcases h.1 with e | ⟨d, d1, d2⟩ <;> rcases h'.1 with e' | ⟨g, g1, g2⟩
  · omega
  · have := h.2 g g1
    have := hV.2.2.1 g g1.1
    omega
  · have := h'.2 d d1
    have := hV.2.2.1 d d1.1
    omega
  · have := h.2 g g1
    have := h'.2 d d1
    omega
theorem Sv.ex {N : mN} (hV : NV N) (a t b : Int) : ∃ v, Sv N a t b v := by
  have : ∀ k : Nat, ∃ v, (v = 1000000 ∨ ∃ e, Rd N a t b e ∧ e < k ∧ v = ar N e) ∧ ∀ e, Rd N a t b e → e < k → v ≤ ar N e := by
    intro k
    induction k with
    | zero => exact ⟨1000000, Or.inl rfl, fun e he h0 => by have := he.1.1; omega⟩
    | succ k ih =>
      obtain ⟨v, h1, h2⟩ := ih
      by_cases hk : Rd N a t b k ∧ ar N k < v
      · refine ⟨ar N k, Or.inr ⟨k, hk.1, by omega, rfl⟩, fun e he h0 => ?_⟩
        by_cases ek : e = k
        · rw [ek]; exact Int.le_refl _
        · have := h2 e he (by omega); omega
      · refine ⟨v, h1.imp id (fun ⟨e, e1, e2, e3⟩ => ⟨e, e1, by omega, e3⟩), fun e he h0 => ?_⟩
        by_cases ek : e = k
        · rw [ek]
          rw [ek] at he
          exact Int.not_lt.1 (fun z => hk ⟨he, z⟩)
        · exact h2 e he (by omega)
  obtain ⟨v, h1, h2⟩ := this 121
  have hn := hV.1
  exact ⟨v, h1.imp id (fun ⟨e, e1, _, e3⟩ => ⟨e, e1, e3⟩), fun e he => h2 e he (by have := he.1.2; omega)⟩
/-- when one is soonest at b, ready at a at t; 1000000 if never -/
noncomputable def sn (N : mN) (a t b : Int) : Int := if a = b then t else Classical.epsilon (fun v => Sv N a t b v)
theorem sn_a (N : mN) (a t : Int) : sn N a t a = t := by unfold sn; rw [if_pos rfl]
theorem sn_v {N : mN} (hV : NV N) {a t b : Int} (hab : a ≠ b) : Sv N a t b (sn N a t b) := by
  unfold sn
  rw [if_neg hab]
  exact Classical.epsilon_spec (Sv.ex hV a t b)
theorem Soon.sn {N : mN} (hV : NV N) {a t : Int} {so : mF} (h : Soon N a t so) {s : Int} (s0 : 0 ≤ s) (s1 : s < nS N) : so s = sn N a t s := by
  obtain ⟨h0, c, hc, hs⟩ := h
  by_cases e : a = s
  · subst e; rw [sn_a, h0]
  · have z := hs s s0 s1 (fun q => e q.symm)
    refine Sv.uniq hV (a := a) (t := t) (b := s) ⟨z.1.imp id (fun ⟨d, d1, d2, d3, d4, d5⟩ => ⟨d, ⟨d1, d2, (hc.cau hV d1).1 d3, d4⟩, d5⟩), fun d hd => z.2 d hd.1 hd.2.1 ((hc.cau hV hd.1).2 hd.2.2.1) hd.2.2.2⟩ (sn_v hV e)
theorem Soa.sn {N : mN} (hV : NV N) {a b t v : Int} (h : Soa N a b t v) (hb : 0 ≤ b ∧ b < nS N) : v = sn N a t b := by
  obtain ⟨so, h1, h2⟩ := h
  rw [h2]; exact h1.sn hV hb.1 hb.2
theorem sn_S {N : mN} (hV : NV N) (a t : Int) : Soon N a t (sn N a t) := by
  refine ⟨sn_a N a t, fun d => bI (Cau N a t d), fun d hd => ⟨⟨fun h => ?_, fun h => bI_t ?_⟩, bI_z _⟩, fun s s0 s1 hne => ?_⟩
  · have hC : Cau N a t d := Classical.byContradiction (fun z => by simp only [bI_f z] at h; omega)
    exact hC.inv.2.imp id (fun ⟨e, e1, e2, e3, e4, e5⟩ => ⟨e, e1, e2, bI_t e3, e4, e5⟩)
  · rcases h with ⟨z1, z2⟩ | ⟨e, e1, e2, e3, e4, e5⟩
    · exact (Cau.clo N a t).1 d hd z1 z2
    · exact (Cau.clo N a t).2 e d e1 e2 (Classical.byContradiction (fun z => by simp only [bI_f z] at e3; omega)) e4 hd e5
  · have z := sn_v hV (a := a) (t := t) (b := s) (fun q => hne q.symm)
    refine ⟨z.1.imp id (fun ⟨e, e1, e2⟩ => ⟨e, e1.1, e1.2.1, bI_t e1.2.2.1, e1.2.2.2, e2⟩), fun e e1 e2 e3 e4 => z.2 e ⟨e1, e2, Classical.byContradiction (fun q => by simp only [bI_f q] at e3; omega), e4⟩⟩
theorem sn_b {N : mN} (hV : NV N) {a t b : Int} (hab : a ≠ b) : sn N a t b = 1000000 ∨ (0 ≤ sn N a t b ∧ sn N a t b ≤ 1700) := by
  rcases (sn_v hV hab (t := t)).1 with e | ⟨d, d1, d2⟩
  · exact Or.inl e
  · have := hV.2.2.1 d d1.1
    exact Or.inr (by omega)
theorem Bst.sn {N : mN} (hV : NV N) {a b q B : Int} {e t l x : mF} {f : Int} (h : Bst N a b q B e t l x f) (hb : 0 ≤ b ∧ b < nS N) (hab : a ≠ b) : (f = -1 ∧ sn N a q b = 1000000) ∨ (f ≠ -1 ∧ sn N a q b = e f ∧ e f ≤ 1700 ∧ 0 ≤ e f) := Soon.best hV h.2.1 h.1 (sn_S hV a q) hb (fun z => hab z.symm) h.2.2
/-- more departures run, or the same: nowhere later -/
theorem sn_le {N N' : mN} (hV : NV N) (hV' : NV N') {a t b : Int} (hab : a ≠ b) (h : ∀ e, Rd N a t b e → ∃ e', Rd N' a t b e' ∧ ar N' e' ≤ ar N e) : sn N' a t b ≤ sn N a t b := by
  rcases (sn_v hV hab (t := t)).1 with e | ⟨d, d1, d2⟩
  · have := sn_b hV' hab (t := t); omega
  · obtain ⟨e', e1, e2⟩ := h d d1
    have := (sn_v hV' hab (t := t)).2 e' e1
    omega
/-- when one is there at best; -2 if never -/
noncomputable def bb (N : mN) (a t b : Int) : Int := if sn N a t b = 1000000 then -2 else sn N a t b

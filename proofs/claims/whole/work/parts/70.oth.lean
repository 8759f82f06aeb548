/-! other ways: the BEST WAY, then that without its departures, and so on -/
noncomputable def iteC (P : Prop) (a b : Int) : Int := @ite Int P (Classical.propDecidable P) a b
theorem iteC_t {P : Prop} {a b : Int} (h : P) : iteC P a b = a := by unfold iteC; rw [if_pos h]
theorem iteC_f {P : Prop} {a b : Int} (h : ¬ P) : iteC P a b = b := by unfold iteC; rw [if_neg h]
def onW (l x : mF) (f y : Int) : Prop := ∃ k : Nat, (k : Int) < l f ∧ itr x k f = y
noncomputable def dropW (N : mN) (l x : mF) (f : Int) : mN := nRuns N (fun y => iteC (onW l x f y) 0 (rn N y))
theorem dropW_r {N : mN} {l x : mF} {f y : Int} : (onW l x f y ∧ rn (dropW N l x f) y = 0) ∨ (¬ onW l x f y ∧ rn (dropW N l x f) y = rn N y) := by
  by_cases h : onW l x f y
  · exact Or.inl ⟨h, iteC_t h⟩
  · exact Or.inr ⟨h, iteC_f h⟩
theorem dropW_V {N : mN} (hV : NV N) (l x : mF) (f : Int) : NV (dropW N l x f) := nRuns_V hV (fun d hd => by
  have := (hV.2.2.1 d hd).2.2.2.2
  rcases dropW_r (N := N) (l := l) (x := x) (f := f) (y := d) with ⟨-, z⟩ | ⟨-, z⟩
  · exact Or.inl z
  · exact (show rn (dropW N l x f) d = 0 ∨ rn (dropW N l x f) d = 1 by rw [z]; exact this))
theorem dropW_eq {N : mN} (hV : NV N) {a b q B B' : Int} {e t l x e' t' l' x' : mF} {f f' : Int} (h : Bst N a b q B e t l x f) (h' : Bst N a b q B' e' t' l' x' f') (hf : f ≠ -1) : dropW N l' x' f' = dropW N l x f := by
  obtain ⟨rfl, z⟩ := h.eq hV h'
  obtain ⟨-, -, -, z1, z2⟩ := z hf
  have : (fun y => iteC (onW l' x' f' y) 0 (rn N y)) = (fun y => iteC (onW l x f' y) 0 (rn N y)) := by
    funext y
    have : onW l' x' f' y ↔ onW l x f' y := ⟨fun ⟨k, k1, k2⟩ => ⟨k, by omega, by rw [← z2 k (by omega)]; exact k2⟩, fun ⟨k, k1, k2⟩ => ⟨k, by omega, by rw [z2 k (by omega)]; exact k2⟩⟩
    rw [propext this]
  unfold dropW
  rw [this]
def Os (N : mN) (a b t : Int) (e : mF) : Nat → mN → Prop
  | 0, M => M = N
  | k + 1, M => ∃ M0, Os N a b t e k M0 ∧ ∃ B ee c l x f, Bst M0 a b t B ee c l x f ∧ f ≠ -1 ∧ e k = ee f ∧ M = dropW M0 l x f
theorem Os.V {N : mN} (hV : NV N) {a b t : Int} {e : mF} : ∀ {k : Nat} {M : mN}, Os N a b t e k M → NV M ∧ nN M = nN N ∧ nS M = nS N
  | 0, M, h => by
    have h' : M = N := h
    subst h'
    exact ⟨hV, rfl, rfl⟩
  | k + 1, M, h => by
    obtain ⟨M0, h1, B, ee, c, l, x, f, -, -, -, rfl⟩ := h
    have := Os.V hV h1
    exact ⟨dropW_V this.1 l x f, this.2.1, this.2.2⟩
theorem Os.uniq {N : mN} (hV : NV N) {a b t : Int} {e e' : mF} : ∀ {k : Nat} {M M' : mN}, Os N a b t e k M → Os N a b t e' k M' → M' = M ∧ ∀ j : Nat, j < k → e' j = e j
  | 0, M, M', h, h' => by
    have e1 : M = N := h
    have e2 : M' = N := h'
    exact ⟨by rw [e1, e2], fun j hj => by omega⟩
  | k + 1, M, M', h, h' => by
    obtain ⟨M0, h1, B, ee, c, l, x, f, hB, hf, he, rfl⟩ := h
    obtain ⟨M0', k1, B', ee', c', l', x', f', kB, kf, ke, rfl⟩ := h'
    obtain ⟨rfl, hj⟩ := Os.uniq hV h1 k1
    have hV0 := (Os.V hV h1).1
    refine ⟨dropW_eq hV0 hB kB hf, fun j j1 => ?_⟩
    by_cases ej : j = k
    · subst ej
      have := hB.eq hV0 kB
      rw [ke, he, this.1]
      exact (this.2 hf).2.1
    · exact hj j (by omega)
theorem Os.pre {N : mN} {a b t : Int} {e : mF} : ∀ {k j : Nat} {M : mN}, Os N a b t e k M → j ≤ k → ∃ M', Os N a b t e j M'
  | 0, j, M, h, hj => by
    have : j = 0 := by omega
    subst this
    exact ⟨M, h⟩
  | k + 1, j, M, h, hj => by
    by_cases ej : j = k + 1
    · subst ej; exact ⟨M, h⟩
    · obtain ⟨M0, h1, -⟩ := h
      exact Os.pre h1 (by omega)
def NM (M : mN) (a b t : Int) : Prop := ∀ B e c l x f, Bst M a b t B e c l x f → f = -1
theorem NM.of {M : mN} (hV : NV M) {a b t B : Int} {e c l x : mF} {f : Int} (h : Bst M a b t B e c l x f) (hf : f = -1) : NM M a b t := fun _ _ _ _ _ _ h' => by rw [(h.eq hV h').1]; exact hf
theorem Os.end {N : mN} (hV : NV N) {a b t : Int} {e e' : mF} {k k' : Nat} {M M' : mN} (h : Os N a b t e k M) (hn : NM M a b t) (h' : Os N a b t e' k' M') : k' ≤ k := by
  by_cases hk : k' ≤ k
  · exact hk
  · exfalso
    obtain ⟨M1, z⟩ := Os.pre h' (j := k + 1) (by omega)
    obtain ⟨M0, h1, B, ee, c, l, x, f, hB, hf, -⟩ := z
    have := (Os.uniq hV h h1).1
    subst this
    exact hf (hn _ _ _ _ _ _ hB)
theorem cn_less {p q : Int → Bool} {x : Int} (h : ∀ d, q d = true → p d = true) (h0 : 0 ≤ x) (hp : p x = true) (hq : q x = false) : ∀ {n : Nat}, x < n → cn q n + 1 ≤ cn p n
  | 0, hx => by omega
  | n + 1, hx => by
    have le : ∀ m : Nat, cn q m ≤ cn p m := by
      intro m
      induction m with
      | zero => exact Int.le_refl _
      | succ m ih =>
        unfold cn
        by_cases e : q m = true
        · rw [if_pos e, if_pos (h m e)]; omega
        · rw [if_neg e]; split <;> omega
    by_cases e : x = n
    · subst e
      have := le n
      unfold cn
      rw [hp, hq]
      simp
      omega
    · have := cn_less h h0 hp hq (n := n) (by omega)
      unfold cn
      by_cases e2 : q n = true
      · rw [if_pos e2, if_pos (h n e2)]; omega
      · rw [if_neg e2]; split <;> omega
theorem Bst.fc {M : mN} {a b t B : Int} {e c l x : mF} {f : Int} (h : Bst M a b t B e c l x f) (hf : f ≠ -1) : Fc M B e a t f := by
  rcases h.2.2 with ⟨z, -⟩ | ⟨-, z, -⟩
  · exact absurd z hf
  · exact z
theorem Os.cnt {N : mN} (hV : NV N) {a b t : Int} {e : mF} : ∀ {k : Nat} {M : mN}, Os N a b t e k M → cn (fun d => rn M d == 1) (nN N).toNat + k ≤ nN N
  | 0, M, h => by
    have := cn_b (fun d => rn M d == 1) (nN N).toNat
    have := hV.1
    omega
  | k + 1, M, h => by
    obtain ⟨M0, h1, B, ee, c, l, x, f, hB, hf, -, rfl⟩ := h
    have ih := Os.cnt hV h1
    have hv := Os.V hV h1
    have hfc := hB.fc hf
    have hl := Lab.l2 hv.1 hB.2.1 hB.1 hfc.1 hfc.2.1 hfc.2.2.2.2
    have hdp := hfc.1
    have h3 : onW l x f f := ⟨0, by have := hl.1; omega, rfl⟩
    have := cn_less (p := fun d => rn M0 d == 1) (q := fun d => rn (dropW M0 l x f) d == 1) (x := f) (fun d hd => by
      rcases dropW_r (N := M0) (l := l) (x := x) (f := f) (y := d) with ⟨-, z⟩ | ⟨-, z⟩
      · rw [z] at hd; exact absurd hd (by decide)
      · rw [z] at hd; exact hd) hdp.1 (by rw [hfc.2.1]; rfl) (by
      rcases dropW_r (N := M0) (l := l) (x := x) (f := f) (y := f) with ⟨-, z⟩ | ⟨z, -⟩
      · rw [z]; rfl
      · exact absurd h3 z) (n := (nN N).toNat) (by have := hdp.2; have := hv.2.1; omega)
    omega
theorem Os.stop {N : mN} (hV : NV N) {a b t : Int} {e : mF} {k : Nat} {M : mN} (h : Os N a b t e k M) (hk : nN N ≤ k) : NM M a b t := fun B ee c l x f hB => by
  by_cases hf : f = -1
  · exact hf
  · exfalso
    have hfc := hB.fc hf
    have hv := Os.V hV h
    have := Os.cnt hV h
    have h1 := cn_one (p := fun d => rn M d == 1) (k := (nN N).toNat) hfc.1.1 (by have := hfc.1.2; have := hv.2.1; omega) (by rw [hfc.2.1]; rfl)
    omega
def Oq (N : mN) (a b t v : Int) : Prop := ∃ k M e, Os N a b t e k M ∧ NM M a b t ∧ v = (k : Int)
theorem Oq.uniq {N : mN} (hV : NV N) {a b t v w : Int} (h : Oq N a b t v) (h' : Oq N a b t w) : v = w := by
  obtain ⟨k, M, e, h1, h2, h3⟩ := h
  obtain ⟨k', M', e', k1, k2, k3⟩ := h'
  have := Os.end hV h1 h2 k1
  have := Os.end hV k1 k2 h1
  omega
/-- as the class tells one -/
def OtC (N : mN) (a b t i v tr : Int) : Prop := ((i < 0 ∨ 120 ≤ i) ∧ v = -1 ∧ tr = 1) ∨ (∃ (k : Nat) (M : mN) (e : mF), (k : Int) ≤ i ∧ Os N a b t e k M ∧ NM M a b t ∧ v = -1 ∧ tr = 1) ∨ ((0 ≤ i ∧ i < 120) ∧ ∃ M e, Os N a b t e (i + 1).toNat M ∧ v = e i ∧ tr = 0)
/-- as the reference tells one -/
def OtR (N : mN) (a b t i v tr : Int) : Prop := ∃ (m : Nat) (M : mN) (e : mF), Os N a b t e m M ∧ NM M a b t ∧ ((0 ≤ i ∧ i < m) ∧ v = e i ∧ tr = 0 ∨ ¬ (0 ≤ i ∧ i < m) ∧ v = -1 ∧ tr = 1)
theorem Ot.eq {N : mN} (hV : NV N) {a b t i v tr v' tr' : Int} (h : OtC N a b t i v tr) (h' : OtR N a b t i v' tr') : v = v' ∧ tr = tr' := by
  obtain ⟨m, M, e, h1, h2, h3⟩ := h'
  have hm := Os.cnt hV h1
  have hb := cn_b (fun d => rn M d == 1) (nN N).toNat
  have hn := hV.1
  rcases h with h | ⟨k, M', e', k0, k1, k2, k3⟩ | ⟨k0, M', e', k1, k2, k3⟩
  · omega
  · have := Os.end hV k1 k2 h1
    omega
  · have := Os.end hV h1 h2 k1
    rcases h3 with ⟨z1, z2, z3⟩ | ⟨z1, z2⟩
    · obtain ⟨M1, p⟩ := Os.pre h1 (j := (i + 1).toNat) (by omega)
      have := (Os.uniq hV p k1).2 i.toNat (by omega)
      have ei : (i.toNat : Int) = i := by omega
      rw [ei] at this
      exact ⟨by rw [k2, z2, this], by omega⟩
    · omega

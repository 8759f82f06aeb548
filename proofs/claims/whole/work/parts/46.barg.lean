/-! TRADES: when one arrives at the soonest with so many changes at most -/
def Cf (N : mN) (d f : Int) : Prop := dp N f ∧ rn N f = 1 ∧ J N d f ∧ frm N f = dst N d
def WA (N : mN) (b B : Int) (pv cu : mF) (d : Int) : Prop := (dst N d = b → cu d = ar N d) ∧ (dst N d ≠ b → cu d ≤ B ∧ (cu d = B ∨ ∃ f, Cf N d f ∧ cu d = (if ln N d = ln N f then cu f else pv f)) ∧ ∀ f, Cf N d f → cu d ≤ (if ln N d = ln N f then cu f else pv f))
/-- V k: with k changes at most; V (-1): never -/
def Vt (N : mN) (b B : Int) (V : Int → mF) (K : Int) : Prop := (∀ d, V (-1) d = B) ∧ ∀ k, 0 ≤ k → k ≤ K → ∀ d, dp N d → rn N d = 1 → WA N b B (V (k - 1)) (V k) d
theorem WA.bd {N : mN} (hV : NV N) {b B : Int} {pv cu : mF} (hB : 1700 < B) (hp : ∀ d, dp N d → rn N d = 1 → pv d = B ∨ (ar N d ≤ pv d ∧ pv d ≤ 1700)) (h : ∀ d, dp N d → rn N d = 1 → WA N b B pv cu d) : ∀ (m : Nat) (d : Int), dp N d → rn N d = 1 → (1501 - lv N d).toNat = m → cu d = B ∨ (ar N d ≤ cu d ∧ cu d ≤ 1700) := by
  intro m
  induction m using Nat.strongRecOn with
  | ind m ih =>
    intro d hd hr hm
    have hv := hV.2.2.1 d hd
    by_cases hb : dst N d = b
    · have := (h d hd hr).1 hb
      exact Or.inr (by omega)
    · obtain ⟨h1, h2, -⟩ := (h d hd hr).2 hb
      rcases h2 with z | ⟨f, f1, f2⟩
      · exact Or.inl z
      · have hlt := J.lt hV hd f1.2.2.1
        have hj := f1.2.2.1.1
        have hvf := hV.2.2.1 f f1.1
        have a1 := ih _ (by omega) f f1.1 f1.2.1 rfl
        have a2 := hp f f1.1 f1.2.1
        split at f2 <;> omega
theorem Vt.bd {N : mN} (hV : NV N) {b B K : Int} {V : Int → mF} (hB : 1700 < B) (h : Vt N b B V K) : ∀ (n : Nat), (n : Int) - 1 ≤ K → ∀ d, dp N d → rn N d = 1 → V ((n : Int) - 1) d = B ∨ (ar N d ≤ V ((n : Int) - 1) d ∧ V ((n : Int) - 1) d ≤ 1700) := by
  intro n
  induction n with
  | zero => intro _ d _ _; exact Or.inl (h.1 d)
  | succ n ih =>
    intro hn d hd hr
    have e1 : ((n + 1 : Nat) : Int) - 1 = n := by omega
    rw [e1]
    exact WA.bd hV hB (ih (by omega)) (fun d hd hr => h.2 n (by omega) (by omega) d hd hr) _ d hd hr rfl
/-- more changes never make it later -/
theorem Vt.anti {N : mN} (hV : NV N) {b B K : Int} {V : Int → mF} (hB : 1700 < B) (h : Vt N b B V K) : ∀ (m : Nat) (d : Int), dp N d → rn N d = 1 → (1501 - lv N d).toNat = m → ∀ n : Nat, (n : Int) ≤ K → V n d ≤ V ((n : Int) - 1) d := by
  intro m
  induction m using Nat.strongRecOn with
  | ind m ih =>
    intro d hd hr hm n hn
    have hv := hV.2.2.1 d hd
    have hb1 := Vt.bd hV hB h n (by omega) d hd hr
    have H := h.2 n (by omega) hn d hd hr
    have key : ∀ f, Cf N d f → ∀ k : Nat, (k : Int) ≤ K → V k f ≤ V ((k : Int) - 1) f := fun f hf k hk => by
      have hlt := J.lt hV hd hf.2.2.1
      have hvf := hV.2.2.1 f hf.1
      exact ih _ (by omega) f hf.1 hf.2.1 rfl k hk
    by_cases hb : dst N d = b
    · have := H.1 hb
      omega
    · obtain ⟨h1, -, h3⟩ := H.2 hb
      cases n with
      | zero =>
        have : V (((0 : Nat) : Int) - 1) d = B := h.1 d
        rw [this]
        exact h1
      | succ n =>
        have e1 : ((n + 1 : Nat) : Int) - 1 = n := by omega
        rw [e1] at h3 ⊢
        have H' := (h.2 n (by omega) (by omega) d hd hr).2 hb
        rcases H'.2.1 with z | ⟨f, f1, f2⟩
        · rw [z]; exact h1
        · have a1 := h3 f f1
          have a2 := key f f1 n (by omega)
          have a3 := key f f1 (n + 1) hn
          rw [e1] at a3
          rw [f2]
          split
          · rename_i q; rw [if_pos q] at a1; omega
          · rename_i q; rw [if_neg q] at a1; omega
theorem Vt.uniq {N : mN} (hV : NV N) {b B B' K : Int} {V V' : Int → mF} (hB : 1700 < B) (hB' : 1700 < B') (h : Vt N b B V K) (h' : Vt N b B' V' K) : ∀ (m : Nat) (d : Int), dp N d → rn N d = 1 → (1501 - lv N d).toNat = m → ∀ k, -1 ≤ k → k ≤ K → (V k d = B ∧ V' k d = B') ∨ (V k d ≠ B ∧ V' k d ≠ B' ∧ V' k d = V k d) := by
  intro m
  induction m using Nat.strongRecOn with
  | ind m ih =>
    intro d hd hr hm k k0 k1
    have hv := hV.2.2.1 d hd
    by_cases hk : k = -1
    · subst hk; exact Or.inl ⟨h.1 d, h'.1 d⟩
    · have H := h.2 k (by omega) k1 d hd hr
      have H' := h'.2 k (by omega) k1 d hd hr
      have bdd := Vt.bd hV hB h (k + 1).toNat (by omega) d hd hr
      have bdd' := Vt.bd hV hB' h' (k + 1).toNat (by omega) d hd hr
      have e0 : (((k + 1).toNat : Nat) : Int) - 1 = k := by omega
      rw [e0] at bdd bdd'
      by_cases hb : dst N d = b
      · have a1 := H.1 hb
        have a2 := H'.1 hb
        exact Or.inr ⟨by omega, by omega, by omega⟩
      · have key : ∀ f, Cf N d f → ((if ln N d = ln N f then V k f else V (k - 1) f) = B ∧ (if ln N d = ln N f then V' k f else V' (k - 1) f) = B') ∨ ((if ln N d = ln N f then V k f else V (k - 1) f) ≠ B ∧ (if ln N d = ln N f then V' k f else V' (k - 1) f) ≠ B' ∧ (if ln N d = ln N f then V' k f else V' (k - 1) f) = (if ln N d = ln N f then V k f else V (k - 1) f)) := fun f hf => by
          have hlt := J.lt hV hd hf.2.2.1
          have hvf := hV.2.2.1 f hf.1
          have a1 := ih _ (by omega) f hf.1 hf.2.1 rfl k k0 k1
          have a2 := ih _ (by omega) f hf.1 hf.2.1 rfl (k - 1) (by omega) (by omega)
          split
          · exact a1
          · exact a2
        obtain ⟨h1, h2, h3⟩ := H.2 hb
        obtain ⟨g1, g2, g3⟩ := H'.2 hb
        rcases bdd with z | z
        · rcases bdd' with y | y
          · exact Or.inl ⟨z, y⟩
          · exfalso
            rcases g2 with w | ⟨f, f1, f2⟩
            · omega
            · have := h3 f f1
              have := key f f1
              omega
        · rcases bdd' with y | y
          · exfalso
            rcases h2 with w | ⟨f, f1, f2⟩
            · omega
            · have := g3 f f1
              have := key f f1
              omega
          · refine Or.inr ⟨by omega, by omega, ?_⟩
            rcases h2 with w | ⟨f, f1, f2⟩
            · omega
            · rcases g2 with w | ⟨g, q1, q2⟩
              · omega
              · have c1 := g3 f f1
                have c2 := h3 g q1
                have c3 := key f f1
                have c4 := key g q1
                omega
/-- once nothing moves, nothing moves any more -/
theorem Vt.stop {N : mN} {b B k K : Int} {V : Int → mF} (hk : 0 ≤ k) (h : Vt N b B V k) (hs : ∀ d, dp N d → rn N d = 1 → V k d = V (k - 1) d) : Vt N b B (fun j => if j ≤ k then V j else V k) K := by
  refine ⟨fun d => by dsimp only; rw [if_pos (by omega)]; exact h.1 d, fun j j0 j1 d hd hr => ?_⟩
  dsimp only
  by_cases hj : j ≤ k
  · rw [if_pos hj, if_pos (show j - 1 ≤ k by omega)]
    exact h.2 j j0 hj d hd hr
  · rw [if_neg hj]
    have e : (if j - 1 ≤ k then V (j - 1) else V k) = V k := by
      by_cases z : j - 1 ≤ k
      · rw [if_pos z]; have : j - 1 = k := by omega
        rw [this]
      · rw [if_neg z]
    rw [e]
    have H := h.2 k hk (Int.le_refl _) d hd hr
    refine ⟨H.1, fun hb => ?_⟩
    obtain ⟨h1, h2, h3⟩ := H.2 hb
    have cv : ∀ f, Cf N d f → (if ln N d = ln N f then V k f else V k f) = (if ln N d = ln N f then V k f else V (k - 1) f) := fun f hf => by rw [hs f hf.1 hf.2.1]
    refine ⟨h1, h2.imp id (fun ⟨f, f1, f2⟩ => ⟨f, f1, by rw [cv f f1]; exact f2⟩), fun f hf => by rw [cv f hf]; exact h3 f hf⟩
/-- the soonest from a, ready at q -/
def Sk (N : mN) (a q B : Int) (v : mF) (s : Int) : Prop := (s = B ∨ ∃ d, dp N d ∧ rn N d = 1 ∧ frm N d = a ∧ q ≤ lv N d ∧ v d = s) ∧ s ≤ B ∧ ∀ d, dp N d → rn N d = 1 → frm N d = a → q ≤ lv N d → s ≤ v d
theorem Sk.eq {N : mN} {a q B B' s s' : Int} {v v' : mF} (h : Sk N a q B v s) (h' : Sk N a q B' v' s') (hv : ∀ d, dp N d → rn N d = 1 → (v d = B ∧ v' d = B') ∨ (v d ≠ B ∧ v' d ≠ B' ∧ v' d = v d)) (hb : ∀ d, dp N d → rn N d = 1 → v d = B ∨ v d ≤ 1700) (hB : 1700 < B) (hB' : 1700 < B') : (s = B ∧ s' = B') ∨ (s ≠ B ∧ s' ≠ B' ∧ s' = s) := by
  obtain ⟨h1, h2, h3⟩ := h
  obtain ⟨k1, k2, k3⟩ := h'
  rcases h1 with z | ⟨d, d1, d2, d3, d4, d5⟩
  · rcases k1 with y | ⟨g, g1, g2, g3, g4, g5⟩
    · exact Or.inl ⟨z, y⟩
    · have a1 := hv g g1 g2
      have a2 := h3 g g1 g2 g3 g4
      have a3 := hb g g1 g2
      omega
  · have a1 := hv d d1 d2
    have a2 := k3 d d1 d2 d3 d4
    have a3 := hb d d1 d2
    rcases k1 with y | ⟨g, g1, g2, g3, g4, g5⟩
    · omega
    · have b1 := hv g g1 g2
      have b2 := h3 g g1 g2 g3 g4
      have b3 := hb g g1 g2
      omega
/-- the latest departure from a, no earlier than q, that comes then -/
def Ls (N : mN) (a q : Int) (v : mF) (s w : Int) : Prop := (∃ d, dp N d ∧ rn N d = 1 ∧ frm N d = a ∧ q ≤ lv N d ∧ v d = s ∧ w = lv N d) ∧ ∀ d, dp N d → rn N d = 1 → frm N d = a → q ≤ lv N d → v d = s → lv N d ≤ w
/-- the k at which it gets sooner, rising -/
def TrL (S : mF) (K c : Int) (te tc : mF) : Prop := 0 ≤ c ∧ (∀ i, 0 ≤ i → i < c → 0 ≤ tc i ∧ tc i ≤ K ∧ S (tc i) < S (tc i - 1) ∧ te i = S (tc i)) ∧ (∀ i j, 0 ≤ i → i < j → j < c → tc i < tc j) ∧ ∀ k, 0 ≤ k → k ≤ K → S k < S (k - 1) → ∃ i, 0 ≤ i ∧ i < c ∧ tc i = k
theorem TrL.uq {S S' : mF} {K c c' : Int} {te tc te' tc' : mF} (h : TrL S K c te tc) (h' : TrL S' K c' te' tc') (hS : ∀ k, 0 ≤ k → k ≤ K → (S k < S (k - 1) ↔ S' k < S' (k - 1))) : ∀ (m : Nat) (i : Int), i.toNat = m → 0 ≤ i → i < c → i < c' ∧ tc' i = tc i := by
  intro m
  induction m using Nat.strongRecOn with
  | ind m ih =>
    intro i hm i0 i1
    obtain ⟨a1, a2, a3, -⟩ := h.2.1 i i0 i1
    obtain ⟨j, j0, j1, j2⟩ := h'.2.2.2 (tc i) a1 a2 ((hS _ a1 a2).mp a3)
    have hij : i ≤ j := by
      rcases (show i ≤ j ∨ j < i by omega) with q | q
      · exact q
      · have y := ih _ (by omega) j rfl j0 (by omega)
        have := h.2.2.1 j i j0 q i1
        omega
    obtain ⟨b1, b2, b3, -⟩ := h'.2.1 i i0 (by omega)
    obtain ⟨k, k0, k1, k2⟩ := h.2.2.2 (tc' i) b1 b2 ((hS _ b1 b2).mpr b3)
    have hik : i ≤ k := by
      rcases (show i ≤ k ∨ k < i by omega) with q | q
      · exact q
      · have y := ih _ (by omega) k rfl k0 (by omega)
        have := h'.2.2.1 k i k0 q (by omega)
        omega
    refine ⟨by omega, ?_⟩
    have c1 : tc i ≤ tc k := by
      rcases (show i = k ∨ i < k by omega) with q | q
      · subst q; omega
      · have := h.2.2.1 i k i0 q k1; omega
    have c2 : tc' i ≤ tc' j := by
      rcases (show i = j ∨ i < j by omega) with q | q
      · subst q; omega
      · have := h'.2.2.1 i j i0 q j1; omega
    omega
theorem TrL.eq {S S' : mF} {K c c' : Int} {te tc te' tc' : mF} (h : TrL S K c te tc) (h' : TrL S' K c' te' tc') (hS : ∀ k, 0 ≤ k → k ≤ K → (S k < S (k - 1) ↔ S' k < S' (k - 1))) (hE : ∀ k, 0 ≤ k → k ≤ K → S k < S (k - 1) → S' k = S k) : c' = c ∧ ∀ i, 0 ≤ i → i < c → tc' i = tc i ∧ te' i = te i := by
  have h0 := h.1
  have h0' := h'.1
  have cc : c' = c := by
    rcases (show c' = c ∨ c' < c ∨ c < c' by omega) with q | q | q
    · exact q
    · have := (TrL.uq h h' hS _ c' rfl h0' q).1; omega
    · have := (TrL.uq h' h (fun k k0 k1 => (hS k k0 k1).symm) _ c rfl h0 q).1; omega
  refine ⟨cc, fun i i0 i1 => ?_⟩
  have z := (TrL.uq h h' hS _ i rfl i0 i1).2
  obtain ⟨a1, a2, a3, a4⟩ := h.2.1 i i0 i1
  obtain ⟨b1, b2, b3, b4⟩ := h'.2.1 i i0 (by omega)
  exact ⟨z, by rw [b4, a4, z, hE _ a1 a2 a3]⟩
/-- with as many changes as there are departures nothing more is gained -/
theorem Vt.full {N : mN} (hV : NV N) {b B K : Int} {V : Int → mF} (h : Vt N b B V K) {o : mF} (hP : Pm o (nN N)) (hO : ∀ i j, 0 ≤ i → i < j → j < nN N → ol N (o i) (o j)) : ∀ (m : Nat) (i : Int), (nN N - i).toNat = m → 0 ≤ i → i < nN N → rn N (o i) = 1 → ∀ k, nN N - i ≤ k → k ≤ K → V k (o i) = V (k - 1) (o i) := by
  intro m
  induction m using Nat.strongRecOn with
  | ind m ih =>
    intro i hm i0 i1 hr k k0 k1
    have hd := hP.1 i i0 i1
    have H := h.2 k (by omega) k1 (o i) hd hr
    have H' := h.2 (k - 1) (by omega) (by omega) (o i) hd hr
    by_cases hb : dst N (o i) = b
    · rw [H.1 hb, H'.1 hb]
    · have vv : ∀ f, Cf N (o i) f → (if ln N (o i) = ln N f then V k f else V (k - 1) f) = (if ln N (o i) = ln N f then V (k - 1) f else V (k - 1 - 1) f) := fun f hf => by
        obtain ⟨j, j0, j1, rfl⟩ := hP.sur hf.1.1 hf.1.2
        have hij : i < j := by
          rcases (show i < j ∨ j ≤ i by omega) with q | q
          · exact q
          · exact absurd hf.2.2.1 (ride_old hV hP hO j0 q i1)
        rw [ih _ (by omega) j rfl j0 j1 hf.2.1 k (by omega) k1, ih _ (by omega) j rfl j0 j1 hf.2.1 (k - 1) (by omega) (by omega)]
      obtain ⟨h1, h2, h3⟩ := H.2 hb
      obtain ⟨g1, g2, g3⟩ := H'.2 hb
      rcases h2 with z | ⟨f, f1, f2⟩
      · rcases g2 with y | ⟨g, q1, q2⟩
        · rw [z, y]
        · have a1 := h3 g q1
          have a2 := vv g q1
          omega
      · have b1 := g3 f f1
        have b2 := vv f f1
        rcases g2 with y | ⟨g, q1, q2⟩
        · omega
        · have a1 := h3 g q1
          have a2 := vv g q1
          omega

theorem Sk.anti {N : mN} {a q B s s' : Int} {v v' : mF} (h : Sk N a q B v s) (h' : Sk N a q B v' s') (hv : ∀ d, dp N d → rn N d = 1 → v' d ≤ v d) : s' ≤ s := by
  rcases h.1 with e | ⟨d, d1, d2, d3, d4, d5⟩
  · rw [e]; exact h'.2.1
  · have := h'.2.2 d d1 d2 d3 d4
    have := hv d d1 d2
    omega
theorem TrL.run {S : mF} {K : Int} (ha : ∀ k, 0 ≤ k → k ≤ K → S k ≤ S (k - 1)) : ∀ (m : Nat) (j : Int), (K - j).toNat = m → -1 ≤ j → j ≤ K → (∀ k, j < k → k ≤ K → ¬ S k < S (k - 1)) → S K = S j
  | 0, j, hm, j0, j1, _ => by have : j = K := by omega
                              rw [this]
  | m + 1, j, hm, j0, j1, hn => by
    have h1 := ha (j + 1) (by omega) (by omega)
    have h2 := hn (j + 1) (by omega) (by omega)
    have h3 := TrL.run ha m (j + 1) (by omega) (by omega) (by omega) (fun k k0 k1 => hn k (by omega) k1)
    have e : j + 1 - 1 = j := by omega
    rw [e] at h1 h2
    omega
theorem TrL.last {S : mF} {K c : Int} {te tc : mF} (h : TrL S K c te tc) (hK : -1 ≤ K) (ha : ∀ k, 0 ≤ k → k ≤ K → S k ≤ S (k - 1)) : (c = 0 → S K = S (-1)) ∧ (0 < c → te (c - 1) = S K) := by
  refine ⟨fun e => TrL.run ha _ (-1) rfl (by omega) hK (fun k k0 k1 hl => ?_), fun e => ?_⟩
  · obtain ⟨i, i0, i1, -⟩ := h.2.2.2 k (by omega) k1 hl
    omega
  · obtain ⟨z1, z2, z3, z4⟩ := h.2.1 (c - 1) (by omega) (by omega)
    rw [z4]
    refine (TrL.run ha _ _ rfl (by omega) z2 (fun k k0 k1 hl => ?_)).symm
    obtain ⟨i, i0, i1, i2⟩ := h.2.2.2 k (by omega) k1 hl
    by_cases e : i = c - 1
    · subst e; omega
    · have := h.2.2.1 i (c - 1) i0 (by omega) (by omega)
      omega
theorem Vt.mono {N : mN} {b B K K' : Int} {V : Int → mF} (h : Vt N b B V K) (hk : K' ≤ K) : Vt N b B V K' := ⟨h.1, fun k k0 k1 => h.2 k k0 (by omega)⟩
theorem Vt.an {N : mN} (hV : NV N) {b B K : Int} {V : Int → mF} (hB : 1700 < B) (h : Vt N b B V K) {k : Int} (k0 : 0 ≤ k) (k1 : k ≤ K) {d : Int} (hd : dp N d) (hr : rn N d = 1) : V k d ≤ V (k - 1) d := by
  have := Vt.anti hV hB h _ d hd hr rfl k.toNat (by omega)
  have e : (k.toNat : Int) = k := by omega
  rw [e] at this
  exact this
/-- the trades of up to K changes -/
def Tq (N : mN) (a b t K c : Int) (te tc ts : mF) : Prop := ∃ B V Sq, 1700 < B ∧ Vt N b B V K ∧ (∀ j, -1 ≤ j → j ≤ K → Sk N a t B (V j) (Sq j)) ∧ TrL Sq K c te tc ∧ ∀ i, 0 ≤ i → i < c → Ls N a t (V (tc i)) (te i) (ts i)
theorem Tq.eq {N : mN} {a b t K c c' : Int} {te tc ts te' tc' ts' : mF} (hV : NV N) (hK : 0 ≤ K) (h : Tq N a b t K c te tc ts) (h' : Tq N a b t K c' te' tc' ts') : c' = c ∧ ∀ i, 0 ≤ i → i < c → te' i = te i ∧ tc' i = tc i ∧ ts' i = ts i := by
  obtain ⟨B, V, S, hB, h1, h2, h3, h4⟩ := h
  obtain ⟨B', V', S', hB', k1, k2, k3, k4⟩ := h'
  have hu : ∀ k, -1 ≤ k → k ≤ K → ∀ d, dp N d → rn N d = 1 → (V k d = B ∧ V' k d = B') ∨ (V k d ≠ B ∧ V' k d ≠ B' ∧ V' k d = V k d) := fun k a1 a2 d d1 d2 => Vt.uniq hV hB hB' h1 k1 _ d d1 d2 rfl k a1 a2
  have hs : ∀ k, -1 ≤ k → k ≤ K → (S k = B ∧ S' k = B') ∨ (S k ≠ B ∧ S' k ≠ B' ∧ S' k = S k) := fun k a1 a2 => by
    refine (h2 k a1 a2).eq (k2 k a1 a2) (hu k a1 a2) (fun d d1 d2 => ?_) hB hB'
    have := Vt.bd hV hB h1 (k + 1).toNat (by omega) d d1 d2
    have e : ((k + 1).toNat : Int) - 1 = k := by omega
    rw [e] at this
    omega
  have hlt : ∀ k, 0 ≤ k → k ≤ K → (S k < S (k - 1) ↔ S' k < S' (k - 1)) := fun k a1 a2 => by
    have e1 := hs k (by omega) a2
    have e2 := hs (k - 1) (by omega) (by omega)
    have b1 := (h2 k (by omega) a2).2.1
    have b2 := (h2 (k - 1) (by omega) (by omega)).2.1
    have b3 := (k2 k (by omega) a2).2.1
    have b4 := (k2 (k - 1) (by omega) (by omega)).2.1
    omega
  have he : ∀ k, 0 ≤ k → k ≤ K → S k < S (k - 1) → S' k = S k := fun k a1 a2 a3 => by
    have e1 := hs k (by omega) a2
    have b2 := (h2 (k - 1) (by omega) (by omega)).2.1
    omega
  obtain ⟨rfl, hh⟩ := TrL.eq h3 k3 hlt he
  refine ⟨rfl, fun i i0 i1 => ?_⟩
  obtain ⟨e1, e2⟩ := hh i i0 i1
  refine ⟨e2, e1, ?_⟩
  have l1 := h4 i i0 i1
  have l2 := k4 i i0 i1
  rw [e1, e2] at l2
  obtain ⟨t1, t2, t3, t4⟩ := h3.2.1 i i0 i1
  have b2 := (h2 (tc i - 1) (by omega) (by omega)).2.1
  have he' := he (tc i) t1 t2 t3
  have hb' := hs (tc i) (by omega) t2
  have key : ∀ d, dp N d → rn N d = 1 → (V (tc i) d = te i ↔ V' (tc i) d = te i) := fun d d1 d2 => by
    have := hu (tc i) (by omega) t2 d d1 d2
    omega
  obtain ⟨⟨d, d1, d2, d3, d4, d5, d6⟩, m1⟩ := l1
  obtain ⟨⟨g, g1, g2, g3, g4, g5, g6⟩, m2⟩ := l2
  have u1 := m1 g g1 g2 g3 g4 ((key g g1 g2).2 g5)
  have u2 := m2 d d1 d2 d3 d4 ((key d d1 d2).1 d5)
  omega
def Trp (N : mN) (a b t c : Int) (te tc ts : mF) : Prop := (a = b ∧ c = 1 ∧ te 0 = t ∧ tc 0 = 0 ∧ ts 0 = t) ∨ (a ≠ b ∧ Tq N a b t 119 c te tc ts)
theorem Trp.eq {N : mN} {a b t c c' : Int} {te tc ts te' tc' ts' : mF} (hV : NV N) (h : Trp N a b t c te tc ts) (h' : Trp N a b t c' te' tc' ts') : c' = c ∧ ∀ i, 0 ≤ i → i < c → te' i = te i ∧ tc' i = tc i ∧ ts' i = ts i := by
  rcases h with ⟨e, h1, h2, h3, h4⟩ | ⟨e, h⟩ <;> rcases h' with ⟨e', k1, k2, k3, k4⟩ | ⟨e', h'⟩
  · refine ⟨by omega, fun i i0 i1 => ?_⟩
    have : i = 0 := by omega
    subst this
    omega
  · omega
  · omega
  · exact h.eq hV (by omega) h'
theorem barg.cut {N : mN} {a b t : Int} {h : mH} {r : mR} (hw : netW h r N) (hb : barg N a b t 120 h) : Tq N a b t 119 (h 58 0) (h 59) (h 60) (h 61) := by
  obtain ⟨V, S, h1, h2, h3, h4, h5⟩ := hb
  have hV := hw.2.1
  have hfull : ∀ d, dp N d → rn N d = 1 → V 120 d = V (120 - 1) d := fun d hd hr => by
    obtain ⟨i, i0, i1, rfl⟩ := hw.2.2.2.1.1.sur hd.1 hd.2
    have := hV.1
    exact Vt.full hV h1 hw.2.2.2.1.1 hw.2.2.2.1.2 _ i rfl i0 i1 hr 120 (by omega) (by omega)
  have hS : ¬ S 120 < S (120 - 1) := by
    have := (h2 120 (by omega) (by omega)).anti (h2 (120 - 1) (by omega) (by omega)) (fun d d1 d2 => by rw [hfull d d1 d2]; exact Int.le_refl _)
    omega
  refine ⟨1000000, V, S, by omega, h1.mono (by omega), fun j j0 j1 => h2 j j0 (by omega), ⟨h3.1, fun i i0 i1 => ?_, h3.2.2.1, fun k k0 k1 hl => h3.2.2.2 k k0 (by omega) hl⟩, h4⟩
  obtain ⟨z1, z2, z3, z4⟩ := h3.2.1 i i0 i1
  refine ⟨z1, ?_, z3, z4⟩
  by_cases e : h 60 i = 120
  · rw [e] at z3; exact absurd z3 hS
  · omega
def Tm (N : mN) (a b t : Int) (v tr : Int) : Prop := ∃ c te tc ts, Trp N a b t c te tc ts ∧ tr = 0 ∧ v = if c = 0 then -2 else c
def To (N : mN) (a b t i w : Int) (v tr : Int) : Prop := ∃ c te tc ts, Trp N a b t c te tc ts ∧ (c = 0 ∧ v = -2 ∧ tr = 0 ∨ c ≠ 0 ∧ ¬ ((0 ≤ i ∧ i < c) ∧ 0 ≤ w ∧ w ≤ 2) ∧ v = -1 ∧ tr = 1 ∨ (0 ≤ i ∧ i < c) ∧ (w = 0 ∧ v = te i ∨ w = 1 ∧ v = tc i ∨ w = 2 ∧ v = ts i) ∧ tr = 0)
theorem Tm.uniq {N : mN} {a b t v tr v' tr' : Int} (hV : NV N) (h : Tm N a b t v tr) (h' : Tm N a b t v' tr') : v = v' ∧ tr = tr' := by
  obtain ⟨c, te, tc, ts, h1, h2, h3⟩ := h
  obtain ⟨c', te', tc', ts', k1, k2, k3⟩ := h'
  have := (h1.eq hV k1).1
  subst this
  exact ⟨h3.trans k3.symm, by omega⟩
theorem To.uniq {N : mN} {a b t i w v tr v' tr' : Int} (hV : NV N) (h : To N a b t i w v tr) (h' : To N a b t i w v' tr') : v = v' ∧ tr = tr' := by
  obtain ⟨c, te, tc, ts, h1, h2⟩ := h
  obtain ⟨c', te', tc', ts', k1, k2⟩ := h'
  obtain ⟨rfl, he⟩ := h1.eq hV k1
  have := he i
  omega
def Wq (N : mN) (a b t k : Int) (v tr : Int) : Prop := tr = 0 ∧ ((a = b ∧ v = t) ∨ (a ≠ b ∧ ∃ B V s, 1700 < B ∧ Vt N b B V k ∧ Sk N a t B (V k) s ∧ v = if s = B then -2 else s))
theorem Wq.uniq {N : mN} {a b t k v tr v' tr' : Int} (hV : NV N) (hk : 0 ≤ k) (h : Wq N a b t k v tr) (h' : Wq N a b t k v' tr') : v = v' ∧ tr = tr' := by
  obtain ⟨e, h⟩ := h
  obtain ⟨e', h'⟩ := h'
  refine ⟨?_, by omega⟩
  rcases h with h | ⟨h0, B, V, s, hB, h1, h2, h3⟩ <;> rcases h' with h' | ⟨h0', B', V', s', hB', k1, k2, k3⟩
  · omega
  · omega
  · omega
  · have := h2.eq k2 (fun d d1 d2 => Vt.uniq hV hB hB' h1 k1 _ d d1 d2 rfl k (by omega) (by omega)) (fun d d1 d2 => by
      have := Vt.bd hV hB h1 (k + 1).toNat (by omega) d d1 d2
      have e : ((k + 1).toNat : Int) - 1 = k := by omega
      rw [e] at this
      omega) hB hB'
    rcases this with ⟨e1, e2⟩ | ⟨e1, e2, e3⟩
    · rw [if_pos e1] at h3; rw [if_pos e2] at k3; omega
    · rw [if_neg e1] at h3; rw [if_neg e2] at k3; omega
theorem barg.w {N : mN} {a b t k : Int} {h : mH} (hV : NV N) (hk : 0 ≤ k) (hab : a ≠ b) (hb : barg N a b t k h) : Wq N a b t k (if h 58 0 ≤ 0 then -2 else h 59 (h 58 0 - 1)) 0 := by
  obtain ⟨V, S, h1, h2, h3, h4, h5⟩ := hb
  have hl := h3.last (by omega) (fun j j0 j1 => (h2 (j - 1) (by omega) (by omega)).anti (h2 j (by omega) j1) (fun d d1 d2 => Vt.an hV (by omega) h1 j0 j1 d1 d2))
  refine ⟨rfl, Or.inr ⟨hab, 1000000, V, S k, by omega, h1, h2 k (by omega) (by omega), ?_⟩⟩
  have h0 := h3.1
  have sm1 : S (-1) = 1000000 := by
    rcases (h2 (-1) (by omega) (by omega)).1 with e | ⟨d, -, -, -, -, e⟩
    · exact e
    · rw [← e]; exact h1.1 d
  split
  · rename_i z
    rw [hl.1 (by omega), sm1, if_pos rfl]
  · rename_i z
    rw [hl.2 (by omega), if_neg]
    intro e
    obtain ⟨z1, z2, z3, z4⟩ := h3.2.1 (h 58 0 - 1) (by omega) (by omega)
    have := (h2 (h 60 (h 58 0 - 1) - 1) (by omega) (by omega)).2.1
    have := hl.2 (by omega)
    omega

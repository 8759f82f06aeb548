def Lq (N : mN) (a b y : Int) (v tr : Int) : Prop := tr = 0 ∧ ((a = b ∧ v = y) ∨ (a ≠ b ∧ ∃ B e c l x, Lab N b B e c l x ∧ 1700 < B ∧ Las N a B e y v))
theorem Lq.uniq {N : mN} {a b y v tr v' tr' : Int} (hV : NV N) (h : Lq N a b y v tr) (h' : Lq N a b y v' tr') : v = v' ∧ tr = tr' := by
  obtain ⟨z, h⟩ := h
  obtain ⟨z', h'⟩ := h'
  refine ⟨?_, by omega⟩
  rcases h with h | ⟨h0, B, e, c, l, x, hL, hB, h⟩ <;> rcases h' with h' | ⟨h0', B', e', c', l', x', hL', hB', h'⟩
  · omega
  · omega
  · omega
  · have t1 : ∀ d, Pa N B e a d → Pa N B' e' a d ∧ e' d = e d := fun d hd => let q := Lab.pa hV hB hB' hL hL' hd; ⟨q.1, q.2.1⟩
    have t2 : ∀ d, Pa N B' e' a d → Pa N B e a d := fun d hd => (Lab.pa hV hB' hB hL' hL hd).1
    rcases h with ⟨h1, h2⟩ | ⟨d, d1, d2, d3, d4⟩ <;> rcases h' with ⟨k1, k2⟩ | ⟨g, g1, g2, g3, g4⟩
    · omega
    · have := t1 g (t2 g g1)
      exact absurd (by omega) (h2 g (t2 g g1))
    · have := t1 d d1
      exact absurd (by omega) (k2 d this.1)
    · have u1 := t1 g (t2 g g1)
      have u2 := t1 d d1
      have := d4 g (t2 g g1) (by omega)
      have := g4 d u2.1 (by omega)
      omega
def Sq2 (N : mN) (a b y z : Int) (v tr : Int) : Prop := tr = 0 ∧ ∃ B e c l x, Lab N b B e c l x ∧ 1700 < B ∧ Spe N a B e y z v
theorem Sq2.uniq {N : mN} {a b y z v tr v' tr' : Int} (hV : NV N) (h : Sq2 N a b y z v tr) (h' : Sq2 N a b y z v' tr') : v = v' ∧ tr = tr' := by
  obtain ⟨w, B, e, c, l, x, hL, hB, h⟩ := h
  obtain ⟨w', B', e', c', l', x', hL', hB', h'⟩ := h'
  refine ⟨?_, by omega⟩
  have t1 : ∀ d, Pa N B e a d → Pa N B' e' a d ∧ e' d = e d := fun d hd => let q := Lab.pa hV hB hB' hL hL' hd; ⟨q.1, q.2.1⟩
  have t2 : ∀ d, Pa N B' e' a d → Pa N B e a d := fun d hd => (Lab.pa hV hB' hB hL' hL hd).1
  have tM : ∀ q u, Mi N a B' e' q u → Mi N a B e q u := fun q u hm => by
    obtain ⟨⟨d, d1, d2, d3⟩, hm⟩ := hm
    refine ⟨⟨d, t2 d d1, d2, by rw [← (t1 d (t2 d d1)).2]; exact d3⟩, fun g g1 g2 => ?_⟩
    have := t1 g g1
    have := hm g this.1 g2
    omega
  rcases h with ⟨h1, q, q1, q2, q3⟩ | ⟨g, g1, g2⟩ <;> rcases h' with ⟨k1, p, p1, p2, p3⟩ | ⟨f, f1, f2⟩
  · omega
  · obtain ⟨⟨d, d1, d2, d3⟩, -⟩ := f1 q q1 q2
    exact absurd d2 (q3 d (t2 d d1))
  · obtain ⟨⟨d, d1, d2, d3⟩, -⟩ := g1 p p1 p2
    exact absurd d2 (p3 d (t1 d d1).1)
  · rw [g2, f2]
    refine sm_congr (fun d d0 d1 => ?_)
    have := (g1 (z - d) (by omega) (by omega)).uniq (tM _ _ (f1 (z - d) (by omega) (by omega)))
    omega
def Sm (N : mN) (a b : Int) (v tr : Int) : Prop := tr = 0 ∧ ∃ sl sa sc, Sps N a b v sl sa sc
theorem Sm.uniq {N : mN} {a b v tr v' tr' : Int} (hV : NV N) (h : Sm N a b v tr) (h' : Sm N a b v' tr') : v = v' ∧ tr = tr' := by
  obtain ⟨z, sl, sa, sc, h⟩ := h
  obtain ⟨z', sl', sa', sc', h'⟩ := h'
  have := (h.eq hV h').1
  omega
def So2 (N : mN) (a b i w : Int) (v tr : Int) : Prop := ∃ c sl sa sc, Sps N a b c sl sa sc ∧ (¬ ((0 ≤ i ∧ i < c) ∧ 0 ≤ w ∧ w ≤ 2) ∧ v = -1 ∧ tr = 1 ∨ (0 ≤ i ∧ i < c) ∧ (w = 0 ∧ v = sl i ∨ w = 1 ∧ v = sa i ∨ w = 2 ∧ v = sc i) ∧ tr = 0)
theorem So2.uniq {N : mN} {a b i w v tr v' tr' : Int} (hV : NV N) (h : So2 N a b i w v tr) (h' : So2 N a b i w v' tr') : v = v' ∧ tr = tr' := by
  obtain ⟨c, te, tc, ts, h1, h2⟩ := h
  obtain ⟨c', te', tc', ts', k1, k2⟩ := h'
  obtain ⟨rfl, he⟩ := h1.eq hV k1
  have := he i
  omega
def Sk2 (N : mN) (a b : Int) (v tr : Int) : Prop := tr = 0 ∧ ∃ c sl sa sc, Sps N a b c sl sa sc ∧ Lea c sl sa v
theorem Lea.uniq {c : Int} {sl sa sl' sa' : mF} {v v' : Int} (h : Lea c sl sa v) (h' : Lea c sl' sa' v') (he : ∀ k, 0 ≤ k → k < c → sl' k = sl k ∧ sa' k = sa k) : v = v' := by
  rcases h with h | ⟨h0, ⟨k, k0, k1, k2⟩, h2⟩ <;> rcases h' with h' | ⟨h0', ⟨j, j0, j1, j2⟩, h2'⟩
  · omega
  · omega
  · omega
  · have a1 := h2 j j0 j1
    have a2 := h2' k k0 k1
    have a3 := he j j0 j1
    have a4 := he k k0 k1
    omega
theorem Lea.rev {c : Int} {sl sa : mF} {v : Int} (h : Lea c sl sa v) : Lea c (fun k => sl (c - 1 - k)) (fun k => sa (c - 1 - k)) v := by
  rcases h with h | ⟨h0, ⟨k, k0, k1, k2⟩, h2⟩
  · exact Or.inl h
  · refine Or.inr ⟨h0, ⟨c - 1 - k, by omega, by omega, ?_⟩, fun j j0 j1 => h2 _ (by omega) (by omega)⟩
    have e : c - 1 - (c - 1 - k) = k := by omega
    simp only [e]
    exact k2
theorem Sk2.uniq {N : mN} {a b v tr v' tr' : Int} (hV : NV N) (h : Sk2 N a b v tr) (h' : Sk2 N a b v' tr') : v = v' ∧ tr = tr' := by
  obtain ⟨z, c, sl, sa, sc, h, hl⟩ := h
  obtain ⟨z', c', sl', sa', sc', h', hl'⟩ := h'
  obtain ⟨rfl, he⟩ := h.eq hV h'
  exact ⟨hl.uniq hl' (fun k k0 k1 => ⟨(he k k0 k1).1, (he k k0 k1).2.1⟩), by omega⟩
/-! class -/
def stp (N : mN) (a b : Int) (h1 : mH) : Prop := aimed N b h1 ∧ stI N a (h1 44) (h1 45) (fun _ => True) h1 ∧ h1 54 0 ≤ 120
theorem stp.b {N : mN} {a b : Int} {h : mH} (hV : NV N) (hs : stp N a b h) : (0 ≤ h 54 0 ∧ h 54 0 ≤ 120) ∧ ∀ k, 0 ≤ k → k < h 54 0 → 0 ≤ h 55 k ∧ h 55 k < h 56 k ∧ h 56 k ≤ 1700 := by
  refine ⟨⟨hs.2.1.1, hs.2.2⟩, fun k k0 k1 => ?_⟩
  obtain ⟨d, -, d1, d2, d3, -⟩ := hs.2.1.2.1 k k0 k1
  have := Lab.l2 hV (by omega) hs.1.1 d1.1 d1.2.1 d1.2.2.2
  have := hV.2.2.1 d d1.1
  omega
theorem stp.fr {S : List Nat} {N : mN} {a b : Int} {h h1 : mH} (hs : stp N a b h) (f : fr S h h1) (hS : ∀ i ∈ [44, 45, 46, 47, 54, 55, 56, 57], i ∉ S) : stp N a b h1 := by
  unfold stp aimed stI at *
  rw [f 44 (hS _ (by decide)), f 45 (hS _ (by decide)), f 46 (hS _ (by decide)), f 47 (hS _ (by decide)), f 54 (hS _ (by decide)), f 55 (hS _ (by decide)), f 56 (hS _ (by decide)), f 57 (hS _ (by decide))]
  exact hs
theorem stp.s {N : mN} {a b : Int} {h : mH} (hs : stp N a b h) : Sps N a b (h 54 0) (fun k => h 55 (h 54 0 - 1 - k)) (fun k => h 56 (h 54 0 - 1 - k)) (fun k => h 57 (h 54 0 - 1 - k)) := ⟨1000000, _, _, _, _, hs.1.1, by omega, hs.2.1.rev⟩
abbrev csQ (h : mH) (r : mR) (a b : Int) : mP := fun rv h1 r1 => rv = none ∧ qf h r h1 r1 ∧ netW h1 r1 (dN h 0) ∧ stp (dN h 0) a b h1
set_option maxRecDepth 100000 in
set_option maxHeartbeats 1000000 in
theorem Lt_collectSteps_ok (a b : Int) (h : mH) (r : mR) (h1 : mH) (r1 : mR) (q1 : qf h r h1 r1) (ha : 0 ≤ a ∧ a < h 2 1) : Meets true (rm 5) m_Lt_collectSteps [vR 0, vI a, vI b] h1 r1 (csQ h r a b) := by
  have hcur := q1.cur
  refine ⟨ok_Lt_collectSteps, Nat.le_of_ble_eq_true rfl, ?_⟩
  refine wq_aload_n (kk := 0) (q := 1) rfl rfl rfl ?_
  refine wq_getF (q := 4) f_Lt_44 rfl rfl (Nat.le_of_ble_eq_true rfl) rfl rfl rfl ?_
  refine wq_aload_n (kk := 0) (q := 5) rfl rfl rfl ?_
  refine wq_getR (q := 8) f_Lt_16 rfl rfl (Or.inl ⟨rfl, Nat.le_of_ble_eq_true rfl⟩) hcur rfl rfl ?_
  refine wq_callV (q := 11) (m' := m_Ne_load) (R' := rm 4) (As := [_]) rfl rfl l_Lt_184 vm_Ne_load rfl rfl rfl (Or.inl ⟨rfl, Nat.le_of_ble_eq_true rfl⟩) (Nat.le_of_ble_eq_true rfl) (Nat.le_of_ble_eq_true rfl) (Nat.le_refl _) (Nat.le_refl _) (Nat.le_of_ble_eq_true rfl) (Lt_load q1) rfl ?_
  rintro rv h2 r2 ⟨rfl, q2, w2⟩ -
  refine wq_aload_n (kk := 0) (q := 12) rfl rfl rfl ?_
  refine wq_getF (q := 15) f_Lt_51 rfl rfl (Nat.le_of_ble_eq_true rfl) rfl rfl rfl ?_
  refine wq_aload_n (kk := 0) (q := 16) rfl rfl rfl ?_
  refine wq_getF (q := 19) f_Lt_44 rfl rfl (Nat.le_of_ble_eq_true rfl) rfl rfl rfl ?_
  refine wq_iload_n (kk := 2) (q := 20) rfl rfl rfl ?_
  refine wq_callV (q := 23) (m' := m_Se_aim) (R' := rm 4) (As := [_, _]) rfl rfl l_Lt_309 vm_Se_aim rfl rfl rfl (Or.inl ⟨rfl, Nat.le_of_ble_eq_true rfl⟩) (Nat.le_of_ble_eq_true rfl) (Nat.le_of_ble_eq_true rfl) (Nat.le_refl _) (Nat.le_refl _) (Nat.le_of_ble_eq_true rfl) (Se_aim_ok (dN h 0) b h2 r2 w2) rfl ?_
  rintro rv h3 r2 ⟨rfl, rfl, f3, hA⟩ -
  have q3 := q2.scr f3 (by decide)
  have w3 := w2.fr f3 (by decide)
  refine wq_aload_n (kk := 0) (q := 24) rfl rfl rfl ?_
  refine wq_getF (q := 27) f_Lt_68 rfl rfl (Nat.le_of_ble_eq_true rfl) rfl rfl rfl ?_
  refine wq_aload_n (kk := 0) (q := 28) rfl rfl rfl ?_
  refine wq_getF (q := 31) f_Lt_44 rfl rfl (Nat.le_of_ble_eq_true rfl) rfl rfl rfl ?_
  refine wq_aload_n (kk := 0) (q := 32) rfl rfl rfl ?_
  refine wq_getF (q := 35) f_Lt_51 rfl rfl (Nat.le_of_ble_eq_true rfl) rfl rfl rfl ?_
  refine wq_iload_n (kk := 1) (q := 36) rfl rfl rfl ?_
  refine wq_callV (q := 39) (m' := m_St_collect) (R' := rm 3) (As := [_, _, _]) rfl rfl l_Lt_361 vm_St_collect rfl rfl rfl (Or.inl ⟨rfl, Nat.le_of_ble_eq_true rfl⟩) (Nat.le_of_ble_eq_true rfl) (Nat.le_of_ble_eq_true rfl) (Nat.le_refl _) (Nat.le_refl _) (Nat.le_of_ble_eq_true rfl) (St_collect_ok (dN h 0) a b h3 r2 w3 ha hA) rfl ?_
  rintro rv h4 r2 ⟨rfl, rfl, f4, hI, hc⟩ -
  refine wq_vret rfl rfl (Nat.le_refl _) (Nat.le_refl _) ⟨rfl, q3.scr f4 (by decide), w3.fr f4 (by decide), hA.fr f4 (by decide), ?_, hc⟩
  rw [f4 44 (by decide), f4 45 (by decide)]
  exact hI

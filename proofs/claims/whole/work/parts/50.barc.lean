theorem Sk.congr {N : mN} {a q B s : Int} {v v' : mF} (h : Sk N a q B v s) (he : ∀ d, dp N d → v' d = v d) : Sk N a q B v' s :=
  ⟨h.1.imp id (fun ⟨d, d1, d2, d3, d4, d5⟩ => ⟨d, d1, d2, d3, d4, by rw [he d d1]; exact d5⟩), h.2.1, fun d d1 d2 d3 d4 => by rw [he d d1]; exact h.2.2 d d1 d2 d3 d4⟩
theorem Ls.congr {N : mN} {a q s w : Int} {v v' : mF} (h : Ls N a q v s w) (he : ∀ d, dp N d → v' d = v d) : Ls N a q v' s w := by
  obtain ⟨⟨d, d1, d2, d3, d4, d5, d6⟩, h2⟩ := h
  exact ⟨⟨d, d1, d2, d3, d4, by rw [he d d1]; exact d5, d6⟩, fun g g1 g2 g3 g4 g5 => h2 g g1 g2 g3 g4 (by rw [← he g g1]; exact g5)⟩
theorem WA.congr {N : mN} {b B d : Int} {pv cu pv' cu' : mF} (hd : dp N d) (h : WA N b B pv cu d) (hp : ∀ d, dp N d → pv' d = pv d) (hc : ∀ d, dp N d → cu' d = cu d) : WA N b B pv' cu' d := by
  have ev : ∀ f, Cf N d f → (if ln N d = ln N f then cu' f else pv' f) = (if ln N d = ln N f then cu f else pv f) := fun f hf => by rw [hp f hf.1, hc f hf.1]
  refine ⟨fun z => by rw [hc d hd]; exact h.1 z, fun z => ?_⟩
  obtain ⟨h1, h2, h3⟩ := h.2 z
  rw [hc d hd]
  exact ⟨h1, h2.imp id (fun ⟨f, f1, f2⟩ => ⟨f, f1, by rw [ev f f1]; exact f2⟩), fun f hf => by rw [ev f hf]; exact h3 f hf⟩
theorem Sk.le {N : mN} {a q B s s' : Int} {v v' : mF} (h : Sk N a q B v s) (h' : Sk N a q B v' s') (he : ∀ d, dp N d → rn N d = 1 → v' d ≤ v d) : s' ≤ s := by
  rcases h.1 with z | ⟨d, d1, d2, d3, d4, d5⟩
  · have := h'.2.1; omega
  · have := h'.2.2 d d1 d2 d3 d4
    have := he d d1 d2
    omega
def BI (N : mN) (a b t k : Int) (V : Int → mF) (Sq : mF) (nw : Nat) (h : mH) : Prop := Vt N b 1000000 V (k - 1) ∧ (∀ d, dp N d → h nw d = V (k - 1) d) ∧ (∀ d, dp N d → rn N d ≠ 1 → h nw d = 1000000) ∧ (∀ j, -1 ≤ j → j < k → Sk N a t 1000000 (V j) (Sq j)) ∧ TrL Sq (k - 1) (h 58 0) (h 59) (h 60) ∧ (∀ i, 0 ≤ i → i < h 58 0 → Ls N a t (V (h 60 i)) (h 59 i) (h 61 i)) ∧ h 58 0 ≤ k
/-- what collect() leaves -/
def barg (N : mN) (a b t K : Int) (h : mH) : Prop := ∃ V Sq, Vt N b 1000000 V K ∧ (∀ j, -1 ≤ j → j ≤ K → Sk N a t 1000000 (V j) (Sq j)) ∧ TrL Sq K (h 58 0) (h 59) (h 60) ∧ (∀ i, 0 ≤ i → i < h 58 0 → Ls N a t (V (h 60 i)) (h 59 i) (h 61 i)) ∧ h 58 0 ≤ 120
theorem BI.next {N : mN} {a b t k : Int} {V : Int → mF} {Sq : mF} {nw fw : Nat} {h h1 h2 : mH} {s : Int} (k0 : 0 ≤ k) (hI : BI N a b t k V Sq nw h) (hnw : ∀ d, h1 nw d = h nw d) (hwa : ∀ d, dp N d → (rn N d ≠ 1 → h1 fw d = 1000000) ∧ (rn N d = 1 → WA N b 1000000 (h1 nw) (h1 fw) d)) (hs : Sk N a t 1000000 (h1 fw) s) (h2f : ∀ d, h2 fw d = h1 fw d)
    (hT : TrL (fun j => if j = k then s else Sq j) k (h2 58 0) (h2 59) (h2 60)) (hL : ∀ i, 0 ≤ i → i < h2 58 0 → Ls N a t ((fun j => if j = k then h1 fw else V j) (h2 60 i)) (h2 59 i) (h2 61 i)) (hc : h2 58 0 ≤ k + 1) : BI N a b t (k + 1) (fun j => if j = k then h1 fw else V j) (fun j => if j = k then s else Sq j) fw h2 := by
  obtain ⟨i1, i2, i3, i4, i5, i6, i7⟩ := hI
  have ek : k + 1 - 1 = k := by omega
  unfold BI
  rw [ek]
  refine ⟨⟨fun d => by dsimp only; rw [if_neg (by omega)]; exact i1.1 d, fun j j0 j1 d hd hr => ?_⟩, fun d hd => by dsimp only; rw [if_pos rfl]; exact h2f d, fun d hd hr => by rw [h2f]; exact (hwa d hd).1 hr, fun j j0 j1 => ?_, hT, hL, hc⟩
  · dsimp only
    by_cases ej : j = k
    · subst ej
      rw [if_pos rfl, if_neg (show ¬ j - 1 = j by omega)]
      exact ((hwa d hd).2 hr).congr hd (fun d hd => by rw [hnw]; exact (i2 d hd).symm) (fun d hd => rfl)
    · rw [if_neg ej, if_neg (show ¬ j - 1 = k by omega)]
      exact i1.2 j j0 (by omega) d hd hr
  · dsimp only
    by_cases ej : j = k
    · subst ej; rw [if_pos rfl, if_pos rfl]; exact hs
    · rw [if_neg ej, if_neg ej]; exact i4 j j0 (by omega)
theorem TrL.keep {Sq : mF} {k c s : Int} {te tc : mF} (k0 : 0 ≤ k) (h : TrL Sq (k - 1) c te tc) (hs : ¬ s < Sq (k - 1)) : TrL (fun j => if j = k then s else Sq j) k c te tc := by
  refine ⟨h.1, fun i i0 i1 => ?_, h.2.2.1, fun j j0 j1 hj => ?_⟩
  · obtain ⟨a1, a2, a3, a4⟩ := h.2.1 i i0 i1
    refine ⟨a1, by omega, ?_, ?_⟩
    · dsimp only; rw [if_neg (by omega), if_neg (by omega)]; exact a3
    · dsimp only; rw [if_neg (by omega)]; exact a4
  · dsimp only at hj
    by_cases ej : j = k
    · subst ej; rw [if_pos rfl, if_neg (by omega)] at hj; exact absurd hj hs
    · rw [if_neg ej, if_neg (by omega)] at hj
      exact h.2.2.2 j j0 (by omega) hj
theorem TrL.add {Sq : mF} {k c s : Int} {te tc te' tc' : mF} (k0 : 0 ≤ k) (h : TrL Sq (k - 1) c te tc) (hs : s < Sq (k - 1)) (h1 : ∀ i, i ≠ c → te' i = te i ∧ tc' i = tc i) (h2 : te' c = s ∧ tc' c = k) : TrL (fun j => if j = k then s else Sq j) k (c + 1) te' tc' := by
  have hc := h.1
  refine ⟨by omega, fun i i0 i1 => ?_, fun i j i0 ij j1 => ?_, fun j j0 j1 hj => ?_⟩
  · by_cases ei : i = c
    · subst ei
      rw [h2.1, h2.2]
      refine ⟨k0, Int.le_refl _, ?_, ?_⟩
      · dsimp only; rw [if_pos rfl, if_neg (by omega)]; exact hs
      · dsimp only; rw [if_pos rfl]
    · obtain ⟨a1, a2, a3, a4⟩ := h.2.1 i i0 (by omega)
      rw [(h1 i ei).1, (h1 i ei).2]
      refine ⟨a1, by omega, ?_, ?_⟩
      · dsimp only; rw [if_neg (by omega), if_neg (by omega)]; exact a3
      · dsimp only; rw [if_neg (by omega)]; exact a4
  · have ei : i ≠ c := by omega
    rw [(h1 i ei).2]
    by_cases ej : j = c
    · subst ej
      rw [h2.2]
      have := (h.2.1 i i0 (by omega)).2.1
      omega
    · rw [(h1 j ej).2]; exact h.2.2.1 i j i0 ij (by omega)
  · dsimp only at hj
    by_cases ej : j = k
    · subst ej; exact ⟨c, by omega, by omega, h2.2⟩
    · rw [if_neg ej, if_neg (by omega)] at hj
      obtain ⟨i, i0, i1, i2⟩ := h.2.2.2 j j0 (by omega) hj
      exact ⟨i, i0, by omega, by rw [(h1 i (by omega)).2]; exact i2⟩
theorem BI.done {N : mN} {a b t k K : Int} {V : Int → mF} {Sq : mF} {nw : Nat} {h : mH} (hI : BI N a b t k V Sq nw h) (hk : k = K + 1) (hc : h 58 0 ≤ 120) : barg N a b t K h := by
  obtain ⟨i1, i2, i3, i4, i5, i6, i7⟩ := hI
  have e : k - 1 = K := by omega
  rw [e] at i1 i5
  exact ⟨V, Sq, i1, fun j j0 j1 => i4 j j0 (by omega), i5, i6, hc⟩
theorem BI.stop {N : mN} {a b t k K : Int} {V : Int → mF} {Sq : mF} {nw : Nat} {h : mH} (hI : BI N a b t k V Sq nw h) (hk : 1 ≤ k) (hK : k - 1 ≤ K) (hc : h 58 0 ≤ 120) (hs : ∀ d, dp N d → rn N d = 1 → V (k - 1) d = V (k - 1 - 1) d) : barg N a b t K h := by
  obtain ⟨i1, i2, i3, i4, i5, i6, i7⟩ := hI
  refine ⟨fun j => if j ≤ k - 1 then V j else V (k - 1), fun j => if j ≤ k - 1 then Sq j else Sq (k - 1), i1.stop (by omega) hs, fun j j0 j1 => ?_, ⟨i5.1, fun i i0 i1' => ?_, i5.2.2.1, fun j j0 j1 hj => ?_⟩, fun i i0 i1' => ?_, hc⟩
  · dsimp only
    by_cases e : j ≤ k - 1
    · rw [if_pos e, if_pos e]; exact i4 j j0 (by omega)
    · rw [if_neg e, if_neg e]; exact i4 (k - 1) (by omega) (by omega)
  · obtain ⟨a1, a2, a3, a4⟩ := i5.2.1 i i0 i1'
    refine ⟨a1, by omega, ?_, ?_⟩
    · dsimp only; rw [if_pos a2, if_pos (by omega)]; exact a3
    · dsimp only; rw [if_pos a2]; exact a4
  · dsimp only at hj
    by_cases e : j ≤ k - 1
    · rw [if_pos e, if_pos (by omega)] at hj
      exact i5.2.2.2 j j0 e hj
    · rw [if_neg e] at hj
      by_cases e2 : j - 1 ≤ k - 1
      · rw [if_pos e2] at hj
        have : j - 1 = k - 1 := by omega
        rw [this] at hj
        omega
      · rw [if_neg e2] at hj; omega
  · have := (i5.2.1 i i0 i1').2.1
    dsimp only
    rw [if_pos this]
    exact i6 i i0 i1'

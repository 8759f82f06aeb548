/-! THE COUPLING: about, spot, departure, and the calls without refusal -/
theorem two_about (w : Int) {h : mH} {r : mR} (C : Cp h r) : Two m_Lt_about (rm 2) m_Mo_about (rm 4) [vI w] h r := by
  refine two_ask (P' := fun h1 => Ans (kO (0 < nS (dN h 0) ∧ 0 ≤ w ∧ w ≤ 5)) (fun v tr => tr = 0 ∧ v = abR h1 (dN h 0) w)) C (Lt_about_ok w h r C.1) (fun h1 r1 q => Mo_about_ok w (dN h 0) h1 r1 (C.qj q)) (fun h1 r1 q => ?_)
  refine Ans.u (fun k0 v tr v' tr' x y => ⟨?_, x.1.trans y.1.symm⟩)
  rw [x.2, y.2]
  have k := kO_0 k0
  unfold abV abR
  split
  · have e : (fun d => h 12 d == 0) = (fun d => rn (dN h 0) d == 1) := by funext d; exact (run_b h d).symm
    rw [e]; rfl
  · rw [q.1 66 (by decide)]
    obtain ⟨x0, x1, x2, x3, x4, -⟩ := C.2.2.1
    have : w = 0 ∨ w = 1 ∨ w = 2 ∨ w = 3 ∨ w = 4 := by omega
    rcases this with rfl | rfl | rfl | rfl | rfl <;> assumption
theorem two_spot (s w : Int) {h : mH} {r : mR} (C : Cp h r) : Two m_Lt_spot (rm 2) m_Mo_spot (rm 4) [vI s, vI w] h r := by
  refine two_ask (P' := fun h1 => Ans (kO ((0 ≤ s ∧ s < nS (dN h 0)) ∧ 0 ≤ w ∧ w ≤ 3)) (fun v tr => tr = 0 ∧ v = spR h1 (dN h 0) s w)) C (Lt_spot_ok s w h r C.1) (fun h1 r1 q => Mo_spot_ok s w (dN h 0) h1 r1 (C.qj q)) (fun h1 r1 q => ?_)
  refine Ans.u (fun k0 v tr v' tr' x y => ⟨?_, x.1.trans y.1.symm⟩)
  rw [x.2, y.2]
  have k := kO_0 k0
  have e1 : (fun d => (h 12 d == 0) && (h 6 d == s)) = (fun d => (rn (dN h 0) d == 1) && (frm (dN h 0) d == s)) := by funext d; rw [run_b h d]; rfl
  have e2 : (fun d => (h 12 d == 0) && (h 7 d == s)) = (fun d => (rn (dN h 0) d == 1) && (dst (dN h 0) d == s)) := by funext d; rw [run_b h d]; rfl
  obtain ⟨x0, x1, x2, x3, x4, xs, -⟩ := C.2.2.1
  obtain ⟨s1, s2⟩ := xs s k.1.1 (by omega)
  unfold spV spR
  rw [q.1 66 (by decide), e1, e2]
  split
  · exact s1
  · split
    · exact s2
    · rfl
theorem two_departure (d w : Int) {h : mH} {r : mR} (C : Cp h r) : Two m_Lt_departure (rm 2) m_Mo_departure (rm 4) [vI d, vI w] h r := by
  refine two_ask (P' := fun h1 => Ans (kO ((0 ≤ d ∧ d < nN (dN h 0)) ∧ 0 ≤ w ∧ w ≤ 7)) (fun v tr => tr = 0 ∧ v = deR h1 (dN h 0) d w)) C (Lt_departure_ok d w h r C.1) (fun h1 r1 q => Mo_departure_ok d w (dN h 0) h1 r1 (C.qj q)) (fun h1 r1 q => ?_)
  refine Ans.u (fun k0 v tr v' tr' x y => ⟨?_, x.1.trans y.1.symm⟩)
  rw [x.2, y.2]
  have k := kO_0 k0
  obtain ⟨x0, x1, x2, x3, x4, -, xd⟩ := C.2.2.1
  obtain ⟨y3, y4, y5, y6, y7, y8, y9, y10⟩ := xd d k.1.1 (by omega)
  have w3 : lv (dN h 0) d = h 8 d + h 10 d := by show h 8 d + (if (0 : Int) = 0 then h 10 d else 0) = _; rw [if_pos rfl]
  have w4 : ar (dN h 0) d = h 8 d + h 10 d + h 9 d := by show h 8 d + (if (0 : Int) = 0 then h 10 d else 0) + h 9 d = _; rw [if_pos rfl]
  unfold deV deR
  rw [q.1 66 (by decide), w3, w4]
  have : w = 0 ∨ w = 1 ∨ w = 2 ∨ w = 3 ∨ w = 4 ∨ w = 5 ∨ w = 6 ∨ w = 7 := by omega
  rcases this with rfl | rfl | rfl | rfl | rfl | rfl | rfl | rfl
  · rw [if_pos rfl, if_neg (by decide), if_neg (by decide), Int.add_zero]; exact y3
  · rw [if_neg (by decide), if_pos rfl, if_neg (by decide), if_neg (by decide)]; exact y4
  · rw [if_neg (by decide), if_neg (by decide), if_pos rfl, if_neg (by decide), if_neg (by decide)]; exact y5
  · rfl
  · rfl
  · simp only [if_neg (show ¬ (5 : Int) = 0 by decide), if_neg (show ¬ (5 : Int) = 1 by decide), if_neg (show ¬ (5 : Int) = 2 by decide), if_neg (show ¬ (5 : Int) = 3 by decide), if_neg (show ¬ (5 : Int) = 4 by decide)]; exact y8
  · simp only [if_neg (show ¬ (6 : Int) = 0 by decide), if_neg (show ¬ (6 : Int) = 1 by decide), if_neg (show ¬ (6 : Int) = 2 by decide), if_neg (show ¬ (6 : Int) = 3 by decide), if_neg (show ¬ (6 : Int) = 4 by decide), if_neg (show ¬ (6 : Int) = 5 by decide), if_pos]
    have : h 12 d = 1 - h 66 (25 + 8 * d + 6) := y10
    omega
  · simp only [if_neg (show ¬ (7 : Int) = 0 by decide), if_neg (show ¬ (7 : Int) = 1 by decide), if_neg (show ¬ (7 : Int) = 2 by decide), if_neg (show ¬ (7 : Int) = 3 by decide), if_neg (show ¬ (7 : Int) = 4 by decide), if_neg (show ¬ (7 : Int) = 5 by decide), if_neg (show ¬ (7 : Int) = 6 by decide)]; exact y9
/-- only the thrown mark of the reference changes -/
theorem Cp.thr {h : mH} {r : mR} (C : Cp h r) (v : Int) : Cp (hup h 64 0 v) r := by
  refine Cp_k C (C.1.fr (S := [64]) (fr.rf.up (by decide)) (by decide)) C.2.1 (fun i hi => hup_ne (by intro e; subst e; revert hi; decide)) (fun j _ => hup_i (by decide)) (fun j hj => hup_j (by omega)) ?_ (fun z => ?_)
  · rw [hup_j (by decide), hup_i (by decide)]; exact C.2.2.2.2.1.1
  · rw [hup_j (by decide)] at z
    rw [hup_j (by decide), hup_i (by decide)]; exact C.2.2.2.2.1.2.2 z
theorem two_pI {m1 m2 : mM} {R1 R2 : Room} {As : List mV} {h : mH} {r : mR} {x y : Int} (C : Cp h r) (hM : Meets true R1 m1 (vR 0 :: As) h r (pI x h r)) (hM2 : Meets true R2 m2 (vR 64 :: As) h r (pI y (hup h 64 0 0) r)) (e : x = y) : Two m1 R1 m2 R2 As h r := by
  subst e
  refine ⟨_, hM, ?_⟩
  rintro rv h1 r1 ⟨rfl, rfl, rfl⟩
  refine ⟨_, hM2, ?_⟩
  rintro rv h2 r2 ⟨rfl, rfl, rfl⟩
  exact ⟨x, rfl, rfl, Or.inl (C.thr 0)⟩
theorem two_fault {h : mH} {r : mR} (C : Cp h r) : Two m_Lt_fault (rm 1) m_Mo_fault (rm 1) [] h r := two_pI C (Lt_fault_ok h r) (Mo_fault_ok h r) C.2.2.2.2.1.2.1.symm
theorem two_trouble {h : mH} {r : mR} (C : Cp h r) : Two m_Lt_trouble (rm 1) m_Mo_trouble (rm 1) [] h r := two_pI C (Lt_trouble_ok h r) (Mo_trouble_ok h r) C.2.2.2.2.1.1.symm
theorem two_where {h : mH} {r : mR} (C : Cp h r) : Two m_Lt_where (rm 1) m_Mo_where (rm 1) [] h r := by
  refine two_pI C (Lt_where_ok h r) (Mo_where_ok h r) ?_
  obtain ⟨a, b, c⟩ := C.2.2.2.2.1
  rw [← a]
  split
  · rename_i z; exact (c z).symm
  · rfl
theorem cn_c {p q : Int → Bool} {n : Nat} (h : ∀ d : Int, 0 ≤ d → d < n → p d = q d) : cn p n = cn q n := by
  induction n with
  | zero => rfl
  | succ n ih =>
    have e := ih (fun d d0 d1 => h d d0 (by omega))
    show cn p n + (if p n then 1 else 0) = cn q n + (if q n then 1 else 0)
    rw [e, h n (by omega) (by omega)]
theorem two_size (w : Int) {h : mH} {r : mR} (C : Cp h r) : Two m_Lt_size (rm 2) m_Mo_size (rm 3) [vI w] h r := by
  have m := C.2.2.1
  have V := C.2.2.2.1.1
  refine two_pI C (Lt_size_ok w h r C.1) (Mo_size_ok w h r V.2.2.2.2.1) ?_
  obtain ⟨x0, x1, x2, x3, x4, xs, xd⟩ := m
  have u := C.2.2.2.2.2.1.2.2.1
  have l := C.2.2.2.2.2.2.2.1
  have x4' : h 2 4 = h 66 4 := x4
  have e : cn (fun d => decide (0 < h 10 d)) (h 2 4).toNat = cn (fun d => decide (0 < h 66 (25 + 8 * d + 5))) (h 66 4).toNat := by
    rw [x4']
    refine cn_c (fun d d0 d1 => ?_)
    obtain ⟨y3, y4, y5, y6, y7, y8, y9, y10⟩ := xd d d0 (by omega)
    have : h 10 d = h 66 (25 + 8 * d + 5) := y8
    rw [this]
  unfold szV szR
  rw [u, l, e]
theorem ubv_0 (v s : Int) : 0 ≤ ubv v s := by
  unfold ubv
  have h1 : ∀ X : Int32, 0 ≤ (X &&& 255).toInt := fun X => by
    have e : X &&& 255 = Int32.ofNat (X.toBitVec.toNat % 2 ^ 8) := pk_and X 8 (by decide)
    have : X.toBitVec.toNat % 2 ^ 8 < 256 := Nat.mod_lt _ (by decide)
    have h3 : (Int32.ofNat (X.toBitVec.toNat % 2 ^ 8)).toInt = ((X.toBitVec.toNat % 2 ^ 8 : Nat) : Int) := by
      rw [Int32.toInt_ofNat', Int.bmod_eq_of_le] <;> simp only [Int32.size] at * <;> omega
    rw [e, h3]
    exact Int.natCast_nonneg _
  exact h1 _
theorem two_feed (a b c d e : Int) {h : mH} {r : mR} (C : Cp h r) : Two m_Lt_feed (rm 2) m_Mo_feed (rm 2) [vI a, vI b, vI c, vI d, vI e] h r := by
  obtain ⟨u0, u1, u2, u3⟩ := C.2.2.2.2.2.1
  refine ⟨_, Lt_feed_ok a b c d e h r ⟨u0, u1⟩, ?_⟩
  rintro rv h1 r1 ⟨rfl, ⟨k1, rfl, rfl⟩ | ⟨k1, rfl, q⟩⟩
  · refine ⟨_, Mo_feed_ok a b c d e h1 r1 (by rw [u2]; exact ⟨u0, u1⟩), ?_⟩
    rintro rv h2 r2 ⟨rfl, ⟨k2, rfl, rfl⟩ | ⟨k2, rfl, q⟩⟩
    · exact ⟨-1, rfl, rfl, Or.inl (C.thr 0)⟩
    · omega
  · obtain ⟨f, q1, q2, q3, q4⟩ := q
    have v5 : h1 64 5 = h 0 1 := by rw [f 64 (by decide)]; exact u2
    refine ⟨_, Mo_feed_ok a b c d e h1 r1 (by rw [v5]; exact ⟨u0, u1⟩), ?_⟩
    rintro rv h2 r2 ⟨rfl, ⟨k2, rfl, rfl⟩ | ⟨k2, rfl, g, p1, p2, p3, p4⟩⟩
    · omega
    · have w5 : hup h1 64 0 0 64 5 = h 0 1 := by rw [hup_j (by decide)]; exact v5
      have g' : fr [64, 65] h1 h2 := fun i hi => (g i hi).trans (hup_ne (by intro z; subst z; exact hi (by decide)))
      have p2' : ∀ k : Int, k ≠ 5 → k ≠ 0 → h2 64 k = h 64 k := fun k k5 k0 => by rw [p2 k k5, hup_j k0, f 64 (by decide)]
      have q2' : ∀ k : Int, k ≠ 1 → h2 0 k = h 0 k := fun k k1 => by rw [g' 0 (by decide)]; exact q2 k k1
      have t0 : h2 0 1 = h 0 1 + 20 := by rw [g' 0 (by decide), q1]; omega
      have t1 : h2 64 5 = h 0 1 + 20 := by rw [p1, w5]; omega
      refine ⟨h1 0 1, rfl, by rw [t1, q1]; rfl, Or.inl ?_⟩
      have I : IQ h2 r2 := (C.1.fr f (by decide)).fr g' (by decide)
      obtain ⟨-, c2, c3, c4, ⟨c5, c6, c7⟩, -, c12⟩ := C
      have e66 : h2 66 = h 66 := (g' 66 (by decide)).trans (f 66 (by decide))
      refine ⟨I, c2, ?_, ?_, ⟨?_, ?_, ?_⟩, ⟨by omega, by omega, by omega, fun j j0 j1 => ?_⟩, LG_k c12 (fun i hi => (g' i (by rcases hi with rfl | rfl | rfl | rfl | rfl | rfl <;> decide)).trans (f i (by rcases hi with rfl | rfl | rfl | rfl | rfl | rfl <;> decide))) (p2' 10 (by decide) (by decide)) (p2' 11 (by decide) (by decide))⟩
      · rw [e66]
        exact dM_k c3 (fun i i0 i1 => by
          have n1 : i ∉ [64, 65] := by simp; omega
          have n2 : i ∉ [0, 1] := by simp; omega
          exact (g' i n1).trans (f i n2))
      · rw [e66, p2' 11 (by decide) (by decide)]; exact c4
      · rw [p2' 1 (by decide) (by decide), q2' 12 (by decide)]; exact c5
      · rw [p2' 2 (by decide) (by decide), q2' 13 (by decide)]; exact c6
      · rw [p2' 1 (by decide) (by decide), p2' 3 (by decide) (by decide), q2' 14 (by decide)]; exact c7
      · rw [g' 1 (by decide)]
        by_cases z : j < h 0 1
        · rw [p3 j (by rw [w5]; exact z), hup_i (by decide), q3 j z, f 65 (by decide)]
          exact u3 j j0 z
        · obtain ⟨w, k, rfl, w0, w1, k0, k1'⟩ : ∃ w k : Int, j = h 0 1 + 4 * w + k ∧ 0 ≤ w ∧ w < 5 ∧ 0 ≤ k ∧ k < 4 := ⟨(j - h 0 1) / 4, (j - h 0 1) % 4, by omega, by omega, by omega, by omega, by omega⟩
          have a1 := p4 w k w0 w1 k0 k1'
          have a2 := q4 w k w0 w1 k0 k1'
          rw [w5] at a1
          rw [a1, a2]
          exact ⟨ubv_0 _ _, bq_v _ _⟩

/-! THE COUPLING: both sides of a call that asks (gD7.py) -/
/-- the desk in force and the draft have changed places -/
def sg (i : Nat) : Nat := if 2 ≤ i ∧ i ≤ 12 then i + 11 else if 13 ≤ i ∧ i ≤ 23 then i - 11 else i
def swH (h : mH) : mH := fun i => h (sg i)
def swR (r : mR) : mR := (fun i k => (r.1 (sg i) k).map sg, r.2)
def CpS (h : mH) (r : mR) : Prop := Cp h r ∨ Cp (swH h) (swR r)
/-- a call of the class, then of the reference: the same answer, and the coupling stands -/
def Two (m1 : mM) (R1 : Room) (m2 : mM) (R2 : Room) (As : List mV) (h : mH) (r : mR) : Prop := ∃ post : mP, Meets true R1 m1 (vR 0 :: As) h r post ∧ ∀ rv h1 r1, post rv h1 r1 → ∃ post2 : mP, Meets true R2 m2 (vR 64 :: As) h1 r1 post2 ∧ ∀ rv' h2 r2, post2 rv' h2 r2 → ∃ v, rv = some (vI v) ∧ rv' = some (vI v) ∧ CpS h2 r2
theorem two_ask {m1 m2 : mM} {R1 R2 : Room} {As : List mV} {h : mH} {r : mR} {P : Int → Int → Prop} {P' : mH → Int → Int → Prop} (C : Cp h r) (hM : Meets true R1 m1 (vR 0 :: As) h r (qP h r P)) (hM2 : ∀ h1 r1, qf h r h1 r1 → Meets true R2 m2 (vR 64 :: As) h1 r1 (rqQ h1 r1 (P' h1))) (hU : ∀ h1 r1, qf h r h1 r1 → ∀ v tr v' tr', P v tr → P' h1 v' tr' → v = v' ∧ tr = tr') : Two m1 R1 m2 R2 As h r := by
  refine ⟨_, hM, fun rv h1 r1 hq => ?_⟩
  have q : qf h r h1 r1 := hq.elim fun _ x => x.2.2
  refine ⟨_, hM2 h1 r1 q, fun rv' h2 r2 hr => ?_⟩
  obtain ⟨v, a, b, c⟩ := C.ask hq hr (hU h1 r1 q)
  exact ⟨v, a, b, Or.inl c⟩
theorem eq_arr {N : mN} (hV : NV N) {a b t B B' f f' : Int} {e c l x e' c' l' x' : mF} (h : Bst N a b t B e c l x f) (h' : Bst N a b t B' e' c' l' x' f') (f0 : f ≠ -1) : e f = e' f' ∧ c f = c' f' ∧ lv N f = lv N f' ∧ l f = l' f' ∧ idl N x f (l f - 1) = idl N x' f' (l' f' - 1) := by
  obtain ⟨rfl, k⟩ := h.eq hV h'
  obtain ⟨k0, k1, k2, k3, k4⟩ := k f0
  exact ⟨k1.symm, k2.symm, rfl, k3.symm, (Bst.idle hV h h' f0).1.symm⟩
theorem Cp.slk {h h1 : mH} {r r1 : mR} (C : Cp h r) (q : qf h r h1 r1) (d : Int) : dp (dN h 0) d → (∀ k, 0 ≤ k → k ≤ 99 → NV (nLate (dN h 0) d k)) ∧ 0 ≤ h1 66 (25 + 8 * d + 5) ∧ h1 66 (25 + 8 * d + 5) ≤ 99 := by
  intro hd
  rw [q.1 66 (by decide)]
  have d1 : d < h 2 4 := hd.2
  have c : h 2 4 = h 66 4 := C.2.2.1.2.2.2.2.1
  have w := C.2.2.2.1.1.2.2.2.2.2.2.2 d hd.1 (by omega)
  unfold dOK at w
  exact ⟨fun k k0 k1 => nLate_NV C.1.1 ⟨hd.1, d1⟩ ⟨k0, k1⟩, w.2.2.2.2.2.2.1⟩
theorem two_arrives (a b t : Int) {h : mH} {r : mR} (C : Cp h r) : Two m_Lt_arrives (rm 7) m_Mo_arrives (rm 8) [vI a, vI b, vI t] h r := by
  have hV : NV (dN h 0) := C.mj.1.1
  refine two_ask (P' := fun h1 => Ans (kP (nS (dN h 0)) a b (bI (isT t))) (Bq (dN h 0) a b t t (fun e c l x f => e f))) C (Lt_arrives_ok a b t h r C.1) (fun h1 r1 q => Mo_arrives_ok a b t (dN h 0) h1 r1 (C.qj q)) (fun h1 r1 q => ?_)
  exact Ans.u (fun _ v tr v' tr' x y => x.uniq hV (fun k1 k2 f0 => (eq_arr hV k1 k2 f0).1) y)
theorem two_changes (a b t : Int) {h : mH} {r : mR} (C : Cp h r) : Two m_Lt_changes (rm 7) m_Mo_changes (rm 9) [vI a, vI b, vI t] h r := by
  have hV : NV (dN h 0) := C.mj.1.1
  refine two_ask (P' := fun h1 => Ans (kP (nS (dN h 0)) a b (bI (isT t))) (Bq (dN h 0) a b t 0 (fun e c l x f => c f))) C (Lt_changes_ok a b t h r C.1) (fun h1 r1 q => Mo_changes_ok a b t (dN h 0) h1 r1 (C.qj q)) (fun h1 r1 q => ?_)
  exact Ans.u (fun _ v tr v' tr' x y => x.uniq hV (fun k1 k2 f0 => (eq_arr hV k1 k2 f0).2.1) y)
theorem two_leaves (a b t : Int) {h : mH} {r : mR} (C : Cp h r) : Two m_Lt_leaves (rm 7) m_Mo_leaves (rm 9) [vI a, vI b, vI t] h r := by
  have hV : NV (dN h 0) := C.mj.1.1
  refine two_ask (P' := fun h1 => Ans (kP (nS (dN h 0)) a b (bI (isT t))) (Bq (dN h 0) a b t t (fun e c l x f => lv (dN h 0) f))) C (Lt_leaves_ok a b t h r C.1) (fun h1 r1 q => Mo_leaves_ok a b t (dN h 0) h1 r1 (C.qj q)) (fun h1 r1 q => ?_)
  exact Ans.u (fun _ v tr v' tr' x y => x.uniq hV (fun k1 k2 f0 => (eq_arr hV k1 k2 f0).2.2.1) y)
theorem two_rides (a b t : Int) {h : mH} {r : mR} (C : Cp h r) : Two m_Lt_rides (rm 7) m_Mo_rides (rm 9) [vI a, vI b, vI t] h r := by
  have hV : NV (dN h 0) := C.mj.1.1
  refine two_ask (P' := fun h1 => Ans (kP (nS (dN h 0)) a b (bI (isT t))) (Bq (dN h 0) a b t 0 (fun e c l x f => l f))) C (Lt_rides_ok a b t h r C.1) (fun h1 r1 q => Mo_rides_ok a b t (dN h 0) h1 r1 (C.qj q)) (fun h1 r1 q => ?_)
  exact Ans.u (fun _ v tr v' tr' x y => x.uniq hV (fun k1 k2 f0 => (eq_arr hV k1 k2 f0).2.2.2.1) y)
theorem two_stands (a b t : Int) {h : mH} {r : mR} (C : Cp h r) : Two m_Lt_stands (rm 7) m_Mo_stands (rm 9) [vI a, vI b, vI t] h r := by
  have hV : NV (dN h 0) := C.mj.1.1
  refine two_ask (P' := fun h1 => Ans (kP (nS (dN h 0)) a b (bI (isT t))) (Bq (dN h 0) a b t 0 (fun e c l x f => idl (dN h 0) x f (l f - 1)))) C (Lt_stands_ok a b t h r C.1) (fun h1 r1 q => Mo_stands_ok a b t (dN h 0) h1 r1 (C.qj q)) (fun h1 r1 q => ?_)
  exact Ans.u (fun _ v tr v' tr' x y => x.uniq hV (fun k1 k2 f0 => (eq_arr hV k1 k2 f0).2.2.2.2) y)
theorem two_ride (a b t i : Int) {h : mH} {r : mR} (C : Cp h r) : Two m_Lt_ride (rm 7) m_Mo_ride (rm 9) [vI a, vI b, vI t, vI i] h r := by
  have hV : NV (dN h 0) := C.mj.1.1
  refine two_ask (P' := fun h1 => Ans (kP (nS (dN h 0)) a b (bI (isT t))) (Rq (dN h 0) a b t i)) C (Lt_ride_ok a b t i h r C.1) (fun h1 r1 q => Mo_ride_ok a b t i (dN h 0) h1 r1 (C.qj q)) (fun h1 r1 q => ?_)
  exact Ans.u (fun _ v tr v' tr' x y => x.uniq hV y)
theorem two_trades (a b t : Int) {h : mH} {r : mR} (C : Cp h r) : Two m_Lt_trades (rm 7) m_Mo_trades (rm 7) [vI a, vI b, vI t] h r := by
  have hV : NV (dN h 0) := C.mj.1.1
  refine two_ask (P' := fun h1 => Ans (kP (nS (dN h 0)) a b (bI (isT t))) (Tm (dN h 0) a b t)) C (Lt_trades_ok a b t h r C.1) (fun h1 r1 q => Mo_trades_ok a b t (dN h 0) h1 r1 (C.qj q)) (fun h1 r1 q => ?_)
  exact Ans.u (fun _ v tr v' tr' x y => x.uniq hV y)
theorem two_trade (a b t i w : Int) {h : mH} {r : mR} (C : Cp h r) : Two m_Lt_trade (rm 7) m_Mo_trade (rm 7) [vI a, vI b, vI t, vI i, vI w] h r := by
  have hV : NV (dN h 0) := C.mj.1.1
  refine two_ask (P' := fun h1 => Ans (kP (nS (dN h 0)) a b (bI (isT t))) (To (dN h 0) a b t i w)) C (Lt_trade_ok a b t i w h r C.1) (fun h1 r1 q => Mo_trade_ok a b t i w (dN h 0) h1 r1 (C.qj q)) (fun h1 r1 q => ?_)
  exact Ans.u (fun _ v tr v' tr' x y => x.uniq hV y)
theorem two_within (a b t k : Int) {h : mH} {r : mR} (C : Cp h r) : Two m_Lt_within (rm 7) m_Mo_within (rm 6) [vI a, vI b, vI t, vI k] h r := by
  have hV : NV (dN h 0) := C.mj.1.1
  refine two_ask (P' := fun h1 => Ans (kP (nS (dN h 0)) a b (bI (isT t ∧ 0 ≤ k ∧ k ≤ 20))) (Wq (dN h 0) a b t k)) C (Lt_within_ok a b t k h r C.1) (fun h1 r1 q => Mo_within_ok a b t k (dN h 0) h1 r1 (C.qj q)) (fun h1 r1 q => ?_)
  exact Ans.u (fun k0 v tr v' tr' x y => x.uniq hV (bI_ne (kP_0 k0).2).2.1 y)
theorem two_latest (a b t : Int) {h : mH} {r : mR} (C : Cp h r) : Two m_Lt_latest (rm 6) m_Mo_latest (rm 7) [vI a, vI b, vI t] h r := by
  have hV : NV (dN h 0) := C.mj.1.1
  refine two_ask (P' := fun h1 => Ans (kP (nS (dN h 0)) a b (bI (isT t))) (Lq (dN h 0) a b t)) C (Lt_latest_ok a b t h r C.1) (fun h1 r1 q => Mo_latest_ok a b t (dN h 0) h1 r1 (C.qj q)) (fun h1 r1 q => ?_)
  exact Ans.u (fun _ v tr v' tr' x y => x.uniq hV y)
theorem two_reach (a t y : Int) {h : mH} {r : mR} (C : Cp h r) : Two m_Lt_reach (rm 5) m_Mo_reach (rm 8) [vI a, vI t, vI y] h r := by
  have hV : NV (dN h 0) := C.mj.1.1
  refine two_ask (P' := fun h1 => Ans (kP (nS (dN h 0)) a a (bI (isT t ∧ isT y))) (fun v tr => tr = 0 ∧ v = rbits (fun s => decide (sn (dN h 0) a t s ≤ y)) (nS (dN h 0)).toNat)) C (Lt_reach_ok a t y h r C.1) (fun h1 r1 q => Mo_reach_ok a t y (dN h 0) h1 r1 (C.qj q)) (fun h1 r1 q => ?_)
  exact Ans.u (fun _ v tr v' tr' x y => ⟨x.2.trans y.2.symm, x.1.trans y.1.symm⟩)
theorem two_farthest (a t : Int) {h : mH} {r : mR} (C : Cp h r) : Two m_Lt_farthest (rm 5) m_Mo_farthest (rm 8) [vI a, vI t] h r := by
  have hV : NV (dN h 0) := C.mj.1.1
  refine two_ask (P' := fun h1 => Ans (kP (nS (dN h 0)) a a (bI (isT t))) (fun v tr => tr = 0 ∧ Fa (sn (dN h 0) a t) (nS (dN h 0)) v)) C (Lt_farthest_ok a t h r C.1) (fun h1 r1 q => Mo_farthest_ok a t (dN h 0) h1 r1 (C.qj q)) (fun h1 r1 q => ?_)
  exact Ans.u (fun _ v tr v' tr' x y => ⟨x.2.uniq y.2, x.1.trans y.1.symm⟩)
theorem two_meets (a b t : Int) {h : mH} {r : mR} (C : Cp h r) : Two m_Lt_meets (rm 5) m_Mo_meets (rm 8) [vI a, vI b, vI t] h r := by
  have hV : NV (dN h 0) := C.mj.1.1
  refine two_ask (P' := fun h1 => Ans (kP (nS (dN h 0)) a b (bI (isT t))) (fun v tr => tr = 0 ∧ Me (sn (dN h 0) a t) (sn (dN h 0) b t) (nS (dN h 0)) v)) C (Lt_meets_ok a b t h r C.1) (fun h1 r1 q => Mo_meets_ok a b t (dN h 0) h1 r1 (C.qj q)) (fun h1 r1 q => ?_)
  exact Ans.u (fun _ v tr v' tr' x y => ⟨x.2.uniq y.2, x.1.trans y.1.symm⟩)
theorem two_round (a b t y : Int) {h : mH} {r : mR} (C : Cp h r) : Two m_Lt_round (rm 6) m_Mo_round (rm 8) [vI a, vI b, vI t, vI y] h r := by
  have hV : NV (dN h 0) := C.mj.1.1
  refine two_ask (P' := fun h1 => Ans (kP (nS (dN h 0)) a b (bI (isT t ∧ 0 ≤ y ∧ y ≤ 999))) (fun v tr => tr = 0 ∧ Ro (dN h 0) a b t y v)) C (Lt_round_ok a b t y h r C.1) (fun h1 r1 q => Mo_round_ok a b t y (dN h 0) h1 r1 (C.qj q)) (fun h1 r1 q => ?_)
  exact Ans.u (fun _ v tr v' tr' x y => ⟨x.2.trans y.2.symm, x.1.trans y.1.symm⟩)
theorem two_steps (a b : Int) {h : mH} {r : mR} (C : Cp h r) : Two m_Lt_steps (rm 6) m_Mo_steps (rm 8) [vI a, vI b] h r := by
  have hV : NV (dN h 0) := C.mj.1.1
  refine two_ask (P' := fun h1 => Ans (kX (nS (dN h 0)) a b 1) (Sm (dN h 0) a b)) C (Lt_steps_ok a b h r C.1) (fun h1 r1 q => Mo_steps_ok a b (dN h 0) h1 r1 (C.qj q)) (fun h1 r1 q => ?_)
  exact Ans.u (fun _ v tr v' tr' x y => x.uniq hV y)
theorem two_step (a b i w : Int) {h : mH} {r : mR} (C : Cp h r) : Two m_Lt_step (rm 6) m_Mo_step (rm 8) [vI a, vI b, vI i, vI w] h r := by
  have hV : NV (dN h 0) := C.mj.1.1
  refine two_ask (P' := fun h1 => Ans (kX (nS (dN h 0)) a b 1) (So2R (dN h 0) a b i w)) C (Lt_step_ok a b i w h r C.1) (fun h1 r1 q => Mo_step_ok a b i w (dN h 0) h1 r1 (C.qj q)) (fun h1 r1 q => ?_)
  exact Ans.u (fun _ v tr v' tr' x y => So2R.eq hV x y)
theorem two_quickest (a b : Int) {h : mH} {r : mR} (C : Cp h r) : Two m_Lt_quickest (rm 6) m_Mo_quickest (rm 8) [vI a, vI b] h r := by
  have hV : NV (dN h 0) := C.mj.1.1
  refine two_ask (P' := fun h1 => Ans (kX (nS (dN h 0)) a b 1) (Sk2 (dN h 0) a b)) C (Lt_quickest_ok a b h r C.1) (fun h1 r1 q => Mo_quickest_ok a b (dN h 0) h1 r1 (C.qj q)) (fun h1 r1 q => ?_)
  exact Ans.u (fun _ v tr v' tr' x y => x.uniq hV y)
theorem two_spent (a b y z : Int) {h : mH} {r : mR} (C : Cp h r) : Two m_Lt_spent (rm 6) m_Mo_spent (rm 7) [vI a, vI b, vI y, vI z] h r := by
  have hV : NV (dN h 0) := C.mj.1.1
  refine two_ask (P' := fun h1 => Ans (kX (nS (dN h 0)) a b (bI (isT y ∧ isT z ∧ y ≤ z))) (Sq2 (dN h 0) a b y z)) C (Lt_spent_ok a b y z h r C.1) (fun h1 r1 q => Mo_spent_ok a b y z (dN h 0) h1 r1 (C.qj q)) (fun h1 r1 q => ?_)
  exact Ans.u (fun _ v tr v' tr' x y => x.uniq hV y)
theorem two_others (a b t : Int) {h : mH} {r : mR} (C : Cp h r) : Two m_Lt_others (rm 6) m_Mo_others (rm 10) [vI a, vI b, vI t] h r := by
  have hV : NV (dN h 0) := C.mj.1.1
  refine two_ask (P' := fun h1 => Ans (kX (nS (dN h 0)) a b (bI (isT t))) (fun v tr => tr = 0 ∧ Oq (dN h 0) a b t v)) C (Lt_others_ok a b t h r C.1) (fun h1 r1 q => Mo_others_ok a b t (dN h 0) h1 r1 (C.qj q)) (fun h1 r1 q => ?_)
  exact Ans.u (fun _ v tr v' tr' x y => ⟨x.2.uniq hV y.2, x.1.trans y.1.symm⟩)
theorem two_other (a b t i : Int) {h : mH} {r : mR} (C : Cp h r) : Two m_Lt_other (rm 6) m_Mo_other (rm 10) [vI a, vI b, vI t, vI i] h r := by
  have hV : NV (dN h 0) := C.mj.1.1
  refine two_ask (P' := fun h1 => Ans (kX (nS (dN h 0)) a b (bI (isT t))) (OtR (dN h 0) a b t i)) C (Lt_other_ok a b t i h r C.1) (fun h1 r1 q => Mo_other_ok a b t i (dN h 0) h1 r1 (C.qj q)) (fun h1 r1 q => ?_)
  exact Ans.u (fun _ v tr v' tr' x y => Ot.eq hV x y)
theorem two_pairs (t : Int) {h : mH} {r : mR} (C : Cp h r) : Two m_Lt_pairs (rm 5) m_Mo_pairs (rm 9) [vI t] h r := by
  have hV : NV (dN h 0) := C.mj.1.1
  refine two_ask (P' := fun h1 => Ans (kT (nS (dN h 0)) (bI (isT t))) (fun v tr => tr = 0 ∧ v = prs (dN h 0) t (nS (dN h 0)) (nS (dN h 0)))) C (Lt_pairs_ok t h r C.1) (fun h1 r1 q => Mo_pairs_ok t (dN h 0) h1 r1 (C.qj q)) (fun h1 r1 q => ?_)
  exact Ans.u (fun _ v tr v' tr' x y => ⟨x.2.trans y.2.symm, x.1.trans y.1.symm⟩)
theorem two_hub (t : Int) {h : mH} {r : mR} (C : Cp h r) : Two m_Lt_hub (rm 6) m_Mo_hub (rm 9) [vI t] h r := by
  have hV : NV (dN h 0) := C.mj.1.1
  refine two_ask (P' := fun h1 => Ans (kT (nS (dN h 0)) (bI (isT t))) (fun v tr => tr = 0 ∧ ∃ T, Tt (dN h 0) t T ∧ Hu T (nS (dN h 0)) v)) C (Lt_hub_ok t h r C.1) (fun h1 r1 q => Mo_hub_ok t (dN h 0) h1 r1 (C.qj q)) (fun h1 r1 q => ?_)
  refine Ans.u (fun _ v tr v' tr' x y => ⟨?_, x.1.trans y.1.symm⟩)
  obtain ⟨x0, T, t1, u1⟩ := x
  obtain ⟨y0, T', t2, u2⟩ := y
  exact u1.uniq u2 (fun s s0 s1 => t2.uniq hV t1 s0 s1)
theorem two_slowest (t : Int) {h : mH} {r : mR} (C : Cp h r) : Two m_Lt_slowest (rm 5) m_Mo_slowest (rm 9) [vI t] h r := by
  have hV : NV (dN h 0) := C.mj.1.1
  refine two_ask (P' := fun h1 => Ans (kT (nS (dN h 0)) (bI (isT t))) (fun v tr => tr = 0 ∧ Sl (dN h 0) t (nS (dN h 0)) (fun _ _ => True) v)) C (Lt_slowest_ok t h r C.1) (fun h1 r1 q => Mo_slowest_ok t (dN h 0) h1 r1 (C.qj q)) (fun h1 r1 q => ?_)
  exact Ans.u (fun _ v tr v' tr' x y => ⟨x.2.uniq y.2, x.1.trans y.1.symm⟩)
theorem two_needs (a b t d : Int) {h : mH} {r : mR} (C : Cp h r) : Two m_Lt_needs (rm 6) m_Mo_needs (rm 9) [vI a, vI b, vI t, vI d] h r := by
  have hV : NV (dN h 0) := C.mj.1.1
  refine two_ask (P' := fun h1 => Ans (kD (nS (dN h 0)) a b (bI (isT t)) (nN (dN h 0)) d) (fun v tr => tr = 0 ∧ Nd (dN h 0) a b t d v)) C (Lt_needs_ok a b t d h r C.1) (fun h1 r1 q => Mo_needs_ok a b t d (dN h 0) h1 r1 (C.qj q)) (fun h1 r1 q => ?_)
  exact Ans.u (fun _ v tr v' tr' x y => ⟨x.2.trans y.2.symm, x.1.trans y.1.symm⟩)
theorem two_vital (a b t : Int) {h : mH} {r : mR} (C : Cp h r) : Two m_Lt_vital (rm 7) m_Mo_vital (rm 9) [vI a, vI b, vI t] h r := by
  have hV : NV (dN h 0) := C.mj.1.1
  refine two_ask (P' := fun h1 => Ans (kP (nS (dN h 0)) a b (bI (isT t))) (fun v tr => tr = 0 ∧ Vi (dN h 0) a b t v)) C (Lt_vital_ok a b t h r C.1) (fun h1 r1 q => Mo_vital_ok a b t (dN h 0) h1 r1 (C.qj q)) (fun h1 r1 q => ?_)
  exact Ans.u (fun _ v tr v' tr' x y => ⟨x.2.uniq y.2, x.1.trans y.1.symm⟩)
theorem two_slack (a b t d : Int) {h : mH} {r : mR} (C : Cp h r) : Two m_Lt_slack (rm 6) m_Mo_slack (rm 8) [vI a, vI b, vI t, vI d] h r := by
  have hV : NV (dN h 0) := C.mj.1.1
  refine two_ask (P' := fun h1 => Ans (kD (nS (dN h 0)) a b (bI (isT t)) (nN (dN h 0)) d) (fun v tr => tr = 0 ∧ Sla (dN h 0) a b t d v)) C (Lt_slack_ok a b t d h r C.1) (fun h1 r1 q => Mo_slack_ok a b t d (dN h 0) h1 r1 (C.qj q) (C.slk q d)) (fun h1 r1 q => ?_)
  exact Ans.u (fun _ v tr v' tr' x y => ⟨x.2.uniq y.2, x.1.trans y.1.symm⟩)
theorem two_why (a b t i : Int) {h : mH} {r : mR} (C : Cp h r) : Two m_Lt_why (rm 7) m_Mo_why (rm 9) [vI a, vI b, vI t, vI i] h r := by
  have hV : NV (dN h 0) := C.mj.1.1
  refine two_ask (P' := fun h1 => Ans (kP (nS (dN h 0)) a b (bI (isT t ∧ 0 ≤ i))) (fun v tr => tr = 0 ∧ v = Wy (dN h 0) (dN h 1) a b t i)) C (Lt_why_ok a b t i h r C.1) (fun h1 r1 q => Mo_why_ok a b t i (dN h 0) (dN h 1) h1 r1 (C.qj q) (dN_V C.1.1 1) rfl (by rw [q.1 66 (by decide)]; exact asT_d C.2.2.1)) (fun h1 r1 q => ?_)
  exact Ans.u (fun _ v tr v' tr' x y => ⟨x.2.trans y.2.symm, x.1.trans y.1.symm⟩)
theorem two_ordered (k : Int) {h : mH} {r : mR} (C : Cp h r) : Two m_Lt_ordered (rm 5) m_Mo_ordered (rm 3) [vI k] h r := by
  have hV : NV (dN h 0) := C.mj.1.1
  refine two_ask (P' := fun h1 => Orq (dN h 0) k) C (Lt_ordered_ok k h r C.1) (fun h1 r1 q => Mo_ordered_ok k (dN h 0) h1 r1 (C.qj q)) (fun h1 r1 q => ?_)
  exact fun v tr v' tr' x y => x.uniq y

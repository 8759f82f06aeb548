def Rq (N : mN) (a b t i : Int) (v tr : Int) : Prop := (a = b ∧ v = -1 ∧ tr = 1) ∨ (a ≠ b ∧ ∃ B e c l x f, Bst N a b t B e c l x f ∧ (f = -1 ∧ v = -2 ∧ tr = 0 ∨ f ≠ -1 ∧ (0 ≤ i ∧ i < l f ∧ v = itr x i.toNat f ∧ tr = 0 ∨ ¬ (0 ≤ i ∧ i < l f) ∧ v = -1 ∧ tr = 1)))
theorem Rq.uniq {N : mN} {a b t i v tr v' tr' : Int} (hV : NV N) (h : Rq N a b t i v tr) (h' : Rq N a b t i v' tr') : v = v' ∧ tr = tr' := by
  rcases h with ⟨e1, e2⟩ | ⟨e1, B, e, c, l, x, f, hB, hc⟩ <;> rcases h' with ⟨e1', e2'⟩ | ⟨e1', B', e', c', l', x', f', hB', hc'⟩
  · omega
  · omega
  · omega
  · have he := hB.eq hV hB'
    obtain ⟨rfl, he⟩ := he
    rcases hc with ⟨z1, z2⟩ | ⟨z1, z2⟩ <;> rcases hc' with ⟨y1, y2⟩ | ⟨y1, y2⟩
    · omega
    · omega
    · omega
    · have := he z1
      rcases z2 with ⟨i0, i1, i2, i3⟩ | ⟨i0, i1⟩ <;> rcases y2 with ⟨j0, j1, j2, j3⟩ | ⟨j0, j1⟩
      · refine ⟨?_, by omega⟩
        rw [i2, j2, this.2.2.2.2 i.toNat (by omega)]
      · omega
      · omega
      · omega
theorem found.c {N : mN} {a b t v : Int} {h : mH} (hV : NV N) (hF : found N a b t h v) (hv : v = 1) : 0 ≤ h 41 0 ∧ h 41 0 ≤ 120 ∧ ∀ k, 0 ≤ k → k < h 41 0 → dp N (h 42 k) := by
  rcases hF with ⟨-, -, e, -⟩ | ⟨-, hA, f, hB, ⟨-, e, -⟩ | ⟨f1, e, hW⟩⟩
  · exact ⟨by omega, by omega, fun k k0 k1 => by omega⟩
  · omega
  · have hfc : Fc N 1000000 (h 44) a t f := by
      rcases hB.2.2 with ⟨z, -⟩ | ⟨-, z, -⟩
      · exact absurd z f1
      · exact z
    have hb := (hA.2 f hfc.1).2
    have := hfc.2.2.2.2
    rw [hW.1]
    refine ⟨by omega, by omega, fun k k0 k1 => ?_⟩
    have e : k = (k.toNat : Int) := by omega
    rw [e, hW.2.2.2.2 k.toNat (by omega)]
    exact (Lab.it hV (by omega) hB.1 hfc.1 hfc.2.1 hfc.2.2.2.2 k.toNat (by omega)).1
set_option maxRecDepth 100000 in
set_option maxHeartbeats 1000000 in
theorem Lt_ride_ok (a b t i : Int) (h : mH) (r : mR) (hI : IQ h r) : Meets true (rm 7) m_Lt_ride [vR 0, vI a, vI b, vI t, vI i] h r (qP h r (Ans (kP (h 2 1) a b (bI (isT t))) (Rq (dN h 0) a b t i))) := by
  have hV := dN_V hI.1 0
  refine ⟨ok_Lt_ride, Nat.le_of_ble_eq_true rfl, ?_⟩
  refine wq_aload_n (kk := 0) (q := 1) rfl rfl rfl ?_
  refine wq_iload_n (kk := 1) (q := 2) rfl rfl rfl ?_
  refine wq_iload_n (kk := 2) (q := 3) rfl rfl rfl ?_
  refine wq_iload_n (kk := 3) (q := 4) rfl rfl rfl ?_
  refine wq_callV (q := 7) (m' := m_Lt_seekBest) (R' := rm 6) (As := [_, _, _]) rfl rfl l_Lt_194 vm_Lt_seekBest rfl rfl rfl (Or.inl ⟨rfl, Nat.le_of_ble_eq_true rfl⟩) (Nat.le_of_ble_eq_true rfl) (Nat.le_of_ble_eq_true rfl) (Nat.le_refl _) (Nat.le_refl _) (Nat.le_of_ble_eq_true rfl) (Lt_seekBest_ok a b t h r hI) rfl ?_
  rintro rv h1 r1 ⟨v, rfl, q1, hs⟩ -
  have hc : v = 0 → 0 ≤ h1 41 0 ∧ h1 41 0 ≤ 120 := fun e => by
    rcases hs with ⟨z1, z2, z3⟩ | ⟨z1, z2, z3, w, z4, z5⟩
    · omega
    · have := z4.c hV (by omega); omega
  refine wq_istore (i := 5) (q := 9) rfl rfl (Nat.le_of_ble_eq_true rfl) rfl ?_
  refine wq_iload (i := 5) (q := 11) rfl rfl rfl ?_
  refine wq_if_eq (tgt := 17) (q := 14) rfl rfl rfl (fun c11 => ?_) (fun c11 => ?_)
  · skip
    refine wq_iload (i := 4) (q := 19) rfl rfl rfl ?_
    refine wq_if_lt (tgt := 37) (q := 22) rfl rfl rfl (fun c19 => ?_) (fun c19 => ?_)
    · skip
      refine wq_aload_n (kk := 0) (q := 38) rfl rfl rfl ?_
      refine wq_iconst (n := 1) (q := 39) rfl rfl rfl ?_
      refine wq_callV (q := 42) (m' := m_Lt_refuse) (R' := rm 1) (As := [_]) rfl rfl l_Lt_87 vm_Lt_refuse rfl rfl rfl (Or.inl ⟨rfl, Nat.le_of_ble_eq_true rfl⟩) (Nat.le_of_ble_eq_true rfl) (Nat.le_of_ble_eq_true rfl) (Nat.le_refl _) (Nat.le_refl _) (Nat.le_of_ble_eq_true rfl) (Lt_refuse_ok 1 h1 r1) rfl ?_
      rintro rv h2 r1 ⟨rfl, rfl, rfl⟩ -
      refine wq_iret rfl rfl (Nat.le_refl _) (Nat.le_refl _) ⟨_, rfl, ?_, q1.put 1⟩
      rcases hs with ⟨z1, z2, z3⟩ | ⟨z1, z2, z3, w, z4, z5⟩
      · exfalso; omega
      · refine Or.inr ⟨z1, ?_⟩
        rcases z4 with ⟨e, e1, -⟩ | ⟨e, hA, f, hB, ⟨f1, f2, -⟩ | ⟨f1, f2, f3⟩⟩
        · exact Or.inl ⟨e, rfl, hup_s⟩
        · exfalso; omega
        · have := f3.1
          exact Or.inr ⟨e, _, _, _, _, _, f, hB, Or.inr ⟨f1, Or.inr ⟨by omega, rfl, hup_s⟩⟩⟩
    · skip
      refine wq_iload (i := 4) (q := 24) rfl rfl rfl ?_
      refine wq_aload_n (kk := 0) (q := 25) rfl rfl rfl ?_
      refine wq_getF (q := 28) f_Lt_51 rfl rfl (Nat.le_of_ble_eq_true rfl) rfl rfl rfl ?_
      refine wq_getF (q := 31) f_Lt_198 rfl rfl (Nat.le_of_ble_eq_true rfl) rfl rfl rfl ?_
      refine wq_getI (kz := 0) (q := 34) rfl f_Lt_212 rfl rfl (Or.inl ⟨rfl, Nat.le_of_ble_eq_true rfl⟩) rfl rfl ?_
      refine wq_icmp_lt (tgt := 43) (q := 37) rfl rfl rfl (fun c34 => ?_) (fun c34 => ?_)
      · skip
        refine wq_aload_n (kk := 0) (q := 44) rfl rfl rfl ?_
        refine wq_getF (q := 47) f_Lt_51 rfl rfl (Nat.le_of_ble_eq_true rfl) rfl rfl rfl ?_
        refine wq_getF (q := 50) f_Lt_198 rfl rfl (Nat.le_of_ble_eq_true rfl) rfl rfl rfl ?_
        refine wq_getF (q := 53) f_Lt_213 rfl rfl (Nat.le_of_ble_eq_true rfl) rfl rfl rfl ?_
        refine wq_iload (i := 4) (q := 55) rfl rfl rfl ?_
        refine wq_iald (q := 56) rfl (Or.inl ⟨rfl, Nat.le_of_ble_eq_true rfl⟩) rfl rfl (by first | omega | (have := hc c11; omega)) (by first | omega | (have := hc c11; omega)) ?_
        refine wq_iret rfl rfl (Nat.le_refl _) (Nat.le_refl _) ⟨_, rfl, ?_, q1⟩
        rcases hs with ⟨z1, z2, z3⟩ | ⟨z1, z2, z3, w, z4, z5⟩
        · exfalso; omega
        · refine Or.inr ⟨z1, ?_⟩
          rcases z4 with ⟨e, e1, e2, -⟩ | ⟨e, hA, f, hB, ⟨f1, f2, -⟩ | ⟨f1, f2, f3⟩⟩
          · exfalso; omega
          · exfalso; omega
          · have := f3.1
            refine Or.inr ⟨e, _, _, _, _, _, f, hB, Or.inr ⟨f1, Or.inl ⟨by omega, by omega, ?_, z2⟩⟩⟩
            have ei : i = (i.toNat : Int) := by omega
            rw [← f3.2.2.2.2 i.toNat (by omega), ← ei]
      · skip
        refine wq_aload_n (kk := 0) (q := 38) rfl rfl rfl ?_
        refine wq_iconst (n := 1) (q := 39) rfl rfl rfl ?_
        refine wq_callV (q := 42) (m' := m_Lt_refuse) (R' := rm 1) (As := [_]) rfl rfl l_Lt_87 vm_Lt_refuse rfl rfl rfl (Or.inl ⟨rfl, Nat.le_of_ble_eq_true rfl⟩) (Nat.le_of_ble_eq_true rfl) (Nat.le_of_ble_eq_true rfl) (Nat.le_refl _) (Nat.le_refl _) (Nat.le_of_ble_eq_true rfl) (Lt_refuse_ok 1 h1 r1) rfl ?_
        rintro rv h2 r1 ⟨rfl, rfl, rfl⟩ -
        refine wq_iret rfl rfl (Nat.le_refl _) (Nat.le_refl _) ⟨_, rfl, ?_, q1.put 1⟩
        rcases hs with ⟨z1, z2, z3⟩ | ⟨z1, z2, z3, w, z4, z5⟩
        · exfalso; omega
        · refine Or.inr ⟨z1, ?_⟩
          rcases z4 with ⟨e, e1, -⟩ | ⟨e, hA, f, hB, ⟨f1, f2, -⟩ | ⟨f1, f2, f3⟩⟩
          · exact Or.inl ⟨e, rfl, hup_s⟩
          · exfalso; omega
          · have := f3.1
            exact Or.inr ⟨e, _, _, _, _, _, f, hB, Or.inr ⟨f1, Or.inr ⟨by omega, rfl, hup_s⟩⟩⟩
  · skip
    refine wq_iload (i := 5) (q := 16) rfl rfl rfl ?_
    refine wq_iret rfl rfl (Nat.le_refl _) (Nat.le_refl _) ⟨_, rfl, ?_, q1⟩
    rcases hs with ⟨z1, z2, z3⟩ | ⟨z1, z2, z3, w, z4, z5⟩
    · exact Or.inl ⟨z1, z2, z3⟩
    · refine Or.inr ⟨z1, ?_⟩
      rcases z4 with ⟨e, e1, -⟩ | ⟨e, hA, f, hB, ⟨f1, f2, -⟩ | ⟨f1, f2, f3⟩⟩
      · exfalso; omega
      · exact Or.inr ⟨e, _, _, _, _, _, f, hB, Or.inl ⟨f1, by omega, z2⟩⟩
      · exfalso; omega
theorem found.idle {N : mN} {a b t v : Int} {h : mH} {r : mR} (hw : netW h r N) (hF : found N a b t h v) (hv : v = 1) : ∃ k, Meets true (rm 1) m_Wa_idleTicks [vR 41, vR 31] h r (pI k h r) ∧ (a = b → k = 0) ∧ (a ≠ b → ∀ f, Bst N a b t 1000000 (h 44) (h 45) (h 46) (h 47) f → k = idl N (h 47) f (h 46 f - 1)) := by
  rcases hF with ⟨e, e1, e2, -⟩ | ⟨e, hA, f, hB, ⟨f1, f2, -⟩ | ⟨f1, f2, f3⟩⟩
  · exact ⟨0, Wa_idle0_ok h r e2, fun _ => rfl, fun z => absurd e z⟩
  · omega
  · have hfc : Fc N 1000000 (h 44) a t f := by
      rcases hB.2.2 with ⟨z, -⟩ | ⟨-, z, -⟩
      · exact absurd z f1
      · exact z
    refine ⟨_, Wa_idleTicks_ok N b f h r hw hA hfc.1 hfc.2.1 hfc.2.2.2.2 f3, fun z => absurd z e, fun _ g hg => ?_⟩
    have := (hB.eq hw.2.1 hg).1
    rw [this]
set_option maxRecDepth 100000 in
set_option maxHeartbeats 1000000 in
theorem Lt_stands_ok (a b t : Int) (h : mH) (r : mR) (hI : IQ h r) : Meets true (rm 7) m_Lt_stands [vR 0, vI a, vI b, vI t] h r (qP h r (Ans (kP (h 2 1) a b (bI (isT t))) (Bq (dN h 0) a b t 0 (fun _ _ l x f => idl (dN h 0) x f (l f - 1))))) := by
  have hV := dN_V hI.1 0
  refine ⟨ok_Lt_stands, Nat.le_of_ble_eq_true rfl, ?_⟩
  refine wq_aload_n (kk := 0) (q := 1) rfl rfl rfl ?_
  refine wq_iload_n (kk := 1) (q := 2) rfl rfl rfl ?_
  refine wq_iload_n (kk := 2) (q := 3) rfl rfl rfl ?_
  refine wq_iload_n (kk := 3) (q := 4) rfl rfl rfl ?_
  refine wq_callV (q := 7) (m' := m_Lt_seekBest) (R' := rm 6) (As := [_, _, _]) rfl rfl l_Lt_194 vm_Lt_seekBest rfl rfl rfl (Or.inl ⟨rfl, Nat.le_of_ble_eq_true rfl⟩) (Nat.le_of_ble_eq_true rfl) (Nat.le_of_ble_eq_true rfl) (Nat.le_refl _) (Nat.le_refl _) (Nat.le_of_ble_eq_true rfl) (Lt_seekBest_ok a b t h r hI) rfl ?_
  rintro rv h1 r1 ⟨v, rfl, q1, hs⟩ -
  refine wq_istore (i := 4) (q := 9) rfl rfl (Nat.le_of_ble_eq_true rfl) rfl ?_
  refine wq_iload (i := 4) (q := 11) rfl rfl rfl ?_
  refine wq_if_ne (tgt := 31) (q := 14) rfl rfl rfl (fun c11 => ?_) (fun c11 => ?_)
  · skip
    refine wq_iload (i := 4) (q := 33) rfl rfl rfl ?_
    refine wq_iret rfl rfl (Nat.le_refl _) (Nat.le_refl _) ⟨_, rfl, ?_, q1⟩
    first
    | exact ans
    | (rcases hs with ⟨z1, z2, z3⟩ | ⟨z1, z2, z3, w, z4, z5⟩
       · exact Or.inl ⟨z1, z2, z3⟩
       · exact Or.inr ⟨z1, z4.q z5 z2 _ (fun y => rfl) (fun y0 y => absurd y0 c11) (fun y0 y f _ _ _ f3 => absurd y0 c11)⟩)
  · skip
    refine wq_aload_n (kk := 0) (q := 15) rfl rfl rfl ?_
    refine wq_getF (q := 18) f_Lt_51 rfl rfl (Nat.le_of_ble_eq_true rfl) rfl rfl rfl ?_
    refine wq_getF (q := 21) f_Lt_198 rfl rfl (Nat.le_of_ble_eq_true rfl) rfl rfl rfl ?_
    refine wq_aload_n (kk := 0) (q := 22) rfl rfl rfl ?_
    refine wq_getF (q := 25) f_Lt_44 rfl rfl (Nat.le_of_ble_eq_true rfl) rfl rfl rfl ?_
    rcases hs with ⟨z1, z2, z3⟩ | ⟨z1, z2, z3, w, z4, z5⟩
    · exfalso; omega
    · obtain ⟨k, hk, k1, k2⟩ := z4.idle z3 (by omega)
      have ans : Ans (kP (h 2 1) a b (bI (isT t))) (Bq (dN h 0) a b t 0 (fun _ _ l x f => idl (dN h 0) x f (l f - 1))) k (h1 0 12) := Or.inr ⟨z1, z4.q z5 z2 k (fun y => absurd c11 y) (fun _ y => k1 y) (fun _ y f _ hB _ _ => k2 y f hB)⟩
      refine wq_callV (q := 28) (m' := m_Wa_idleTicks) (R' := rm 1) (As := [_]) rfl rfl l_Lt_216 vm_Wa_idleTicks rfl rfl rfl (Or.inl ⟨rfl, Nat.le_of_ble_eq_true rfl⟩) (Nat.le_of_ble_eq_true rfl) (Nat.le_of_ble_eq_true rfl) (Nat.le_refl _) (Nat.le_refl _) (Nat.le_of_ble_eq_true rfl) (hk) rfl ?_
      rintro rv h1 r1 ⟨rfl, rfl, rfl⟩ -
      refine wq_goto (tgt := 33) rfl rfl ?_
      refine wq_iret rfl rfl (Nat.le_refl _) (Nat.le_refl _) ⟨_, rfl, ?_, q1⟩
      first
      | exact ans
      | (rcases hs with ⟨z1, z2, z3⟩ | ⟨z1, z2, z3, w, z4, z5⟩
         · exact Or.inl ⟨z1, z2, z3⟩
         · exact Or.inr ⟨z1, z4.q z5 z2 _ (fun y => rfl) (fun y0 y => absurd y0 c11) (fun y0 y f _ _ _ f3 => absurd y0 c11)⟩)
/-! the trade -/
abbrev trQ (h : mH) (r : mR) (a b t K : Int) : mP := fun rv h1 r1 => ∃ v, rv = some (vI v) ∧ qf h r h1 r1 ∧ ((kP (h 2 1) a b (bI (isT t)) ≠ 0 ∧ v = -1 ∧ h1 0 12 = kP (h 2 1) a b (bI (isT t))) ∨ (kP (h 2 1) a b (bI (isT t)) = 0 ∧ h1 0 12 = 0 ∧ netW h1 r1 (dN h 0) ∧ (0 < h1 58 0 ∧ v = 0 ∨ h1 58 0 ≤ 0 ∧ v = -2) ∧ h1 58 0 ≤ 120 ∧ ((a = b ∧ h1 58 0 = 1 ∧ h1 59 0 = t ∧ h1 60 0 = 0 ∧ h1 61 0 = t) ∨ (a ≠ b ∧ barg (dN h 0) a b t K h1))))
theorem barg.fr {S : List Nat} {h h1 : mH} {N : mN} {a b t K : Int} (hF : barg N a b t K h) (f : fr S h h1) (hS : ∀ i ∈ [58, 59, 60, 61], i ∉ S) : barg N a b t K h1 := by
  unfold barg at *
  rw [f 58 (hS _ (by decide)), f 59 (hS _ (by decide)), f 60 (hS _ (by decide)), f 61 (hS _ (by decide))]
  exact hF
set_option maxRecDepth 100000 in
set_option maxHeartbeats 1000000 in
theorem Lt_seekTrades_ok (a b t K : Int) (hK : 0 ≤ K ∧ K ≤ 120) (h : mH) (r : mR) (hI : IQ h r) : Meets true (rm 6) m_Lt_seekTrades [vR 0, vI a, vI b, vI t, vI K] h r (trQ h r a b t K) := by
  have hcur := hI.2.2.2.1
  have q0 := qf.rf hI
  refine ⟨ok_Lt_seekTrades, Nat.le_of_ble_eq_true rfl, ?_⟩
  refine wq_aload_n (kk := 0) (q := 1) rfl rfl rfl ?_
  refine wq_aload_n (kk := 0) (q := 2) rfl rfl rfl ?_
  refine wq_iload_n (kk := 1) (q := 3) rfl rfl rfl ?_
  refine wq_iload_n (kk := 2) (q := 4) rfl rfl rfl ?_
  refine wq_iload_n (kk := 3) (q := 5) rfl rfl rfl ?_
  refine wq_callS (q := 8) (m' := m_Lt_isTime) (R' := rm 1) (As := [_]) rfl rfl l_Lt_233 sm_Lt_isTime rfl (Nat.le_of_ble_eq_true rfl) (Nat.le_of_ble_eq_true rfl) (Nat.le_refl _) (Nat.le_refl _) (Nat.le_of_ble_eq_true rfl) (Lt_isTime_ok t h r) rfl ?_
  rintro rv h r ⟨rfl, rfl, rfl⟩ -
  refine wq_callV (q := 11) (m' := m_Lt_lookAtPair) (R' := rm 2) (As := [_, _, _]) rfl rfl l_Lt_236 vm_Lt_lookAtPair rfl rfl rfl (Or.inl ⟨rfl, Nat.le_of_ble_eq_true rfl⟩) (Nat.le_of_ble_eq_true rfl) (Nat.le_of_ble_eq_true rfl) (Nat.le_refl _) (Nat.le_refl _) (Nat.le_of_ble_eq_true rfl) (Lt_lookAtPair_ok a b _ h r hcur) rfl ?_
  rintro rv h r ⟨rfl, rfl, rfl⟩ -
  generalize hk : kP (h 2 1) a b (bI (isT t)) = k
  refine wq_callV (q := 14) (m' := m_Lt_isRefused) (R' := rm 1) (As := [_]) rfl rfl l_Lt_240 vm_Lt_isRefused rfl rfl rfl (Or.inl ⟨rfl, Nat.le_of_ble_eq_true rfl⟩) (Nat.le_of_ble_eq_true rfl) (Nat.le_of_ble_eq_true rfl) (Nat.le_refl _) (Nat.le_refl _) (Nat.le_of_ble_eq_true rfl) (Lt_isRefused_ok k h r) rfl ?_
  rintro rv h1 r ⟨rfl, rfl, rfl⟩ -
  have q1 := q0.put k
  refine wq_cif_eq (tgt := 19) (q := 17) rfl rfl rfl (fun c14 => ?_) (fun c14 => ?_)
  · skip
    refine wq_aload_n (kk := 0) (q := 20) rfl rfl rfl ?_
    refine wq_getF (q := 23) f_Lt_44 rfl rfl (Nat.le_of_ble_eq_true rfl) rfl rfl rfl ?_
    refine wq_aload_n (kk := 0) (q := 24) rfl rfl rfl ?_
    refine wq_getR (q := 27) f_Lt_16 rfl rfl (Or.inl ⟨rfl, Nat.le_of_ble_eq_true rfl⟩) hcur rfl rfl ?_
    refine wq_callV (q := 30) (m' := m_Ne_load) (R' := rm 4) (As := [_]) rfl rfl l_Lt_184 vm_Ne_load rfl rfl rfl (Or.inl ⟨rfl, Nat.le_of_ble_eq_true rfl⟩) (Nat.le_of_ble_eq_true rfl) (Nat.le_of_ble_eq_true rfl) (Nat.le_refl _) (Nat.le_refl _) (Nat.le_of_ble_eq_true rfl) (Lt_load q1) rfl ?_
    rintro rv h2 r2 ⟨rfl, q2, w2⟩ -
    have k0 : k = 0 := by simpa using c14
    subst k0
    have hab := kP_0 hk
    obtain ⟨nw, fw, hB⟩ := q2.2.2.2.2.2.2.2
    refine wq_aload_n (kk := 0) (q := 31) rfl rfl rfl ?_
    refine wq_getF (q := 34) f_Lt_75 rfl rfl (Nat.le_of_ble_eq_true rfl) rfl rfl rfl ?_
    refine wq_aload_n (kk := 0) (q := 35) rfl rfl rfl ?_
    refine wq_getF (q := 38) f_Lt_44 rfl rfl (Nat.le_of_ble_eq_true rfl) rfl rfl rfl ?_
    refine wq_iload_n (kk := 1) (q := 39) rfl rfl rfl ?_
    refine wq_iload_n (kk := 2) (q := 40) rfl rfl rfl ?_
    refine wq_iload_n (kk := 3) (q := 41) rfl rfl rfl ?_
    refine wq_iload (i := 4) (q := 43) rfl rfl rfl ?_
    refine wq_callV (q := 46) (m' := m_Ba_collect) (R' := rm 5) (As := [_, _, _, _, _]) rfl rfl l_Lt_357 vm_Ba_collect rfl rfl rfl (Or.inl ⟨rfl, Nat.le_of_ble_eq_true rfl⟩) (Nat.le_of_ble_eq_true rfl) (Nat.le_of_ble_eq_true rfl) (Nat.le_refl _) (Nat.le_refl _) (Nat.le_of_ble_eq_true rfl) (Ba_collect_ok nw fw (dN h 0) a b t K h2 r2 hB w2 hab.1.1 hK) rfl ?_
    rintro rv h3 r3 ⟨rfl, e3, b3, f3, hf⟩ -
    have q3 : qf h r h3 r3 := by
      have q := q2.scr f3 (by decide)
      refine ⟨q.1, q.2.1, q.2.2.1.e e3, q.2.2.2.1, q.2.2.2.2.1, q.2.2.2.2.2.1, ?_, b3⟩
      rw [e3.2 0 2 (by omega)]; exact q.cur
    have w3 : netW h3 r3 (dN h 0) := ⟨by rw [e3.2 31 7 (by omega)]; exact w2.1, (w2.fr f3 (by decide)).2⟩
    have hc : h3 58 0 ≤ 120 := by
      rcases hf with z | ⟨-, V, Sq, -, -, -, -, z⟩
      · omega
      · exact z
    refine wq_aload_n (kk := 0) (q := 47) rfl rfl rfl ?_
    refine wq_aload_n (kk := 0) (q := 48) rfl rfl rfl ?_
    refine wq_getF (q := 51) f_Lt_75 rfl rfl (Nat.le_of_ble_eq_true rfl) rfl rfl rfl ?_
    refine wq_getI (kz := 0) (q := 54) rfl f_Lt_224 rfl rfl (Or.inl ⟨rfl, Nat.le_of_ble_eq_true rfl⟩) rfl rfl ?_
    refine wq_if_le (tgt := 61) (q := 57) rfl rfl rfl (fun c54 => ?_) (fun c54 => ?_)
    · skip
      refine wq_bipush (n := -2) (q := 63) rfl rfl rfl ?_
      refine wq_callV (q := 66) (m' := m_Lt_answer) (R' := rm 1) (As := [_]) rfl rfl l_Lt_113 vm_Lt_answer rfl rfl rfl (Or.inl ⟨rfl, Nat.le_of_ble_eq_true rfl⟩) (Nat.le_of_ble_eq_true rfl) (Nat.le_of_ble_eq_true rfl) (Nat.le_refl _) (Nat.le_refl _) (Nat.le_of_ble_eq_true rfl) (Lt_answer_ok _ h3 r3) rfl ?_
      rintro rv h4 r3 ⟨rfl, rfl, rfl⟩ -
      refine wq_iret rfl rfl (Nat.le_refl _) (Nat.le_refl _) ⟨_, rfl, q3.put 0, Or.inr ⟨hk, hup_s, w3.fr (S := [0]) (fr.rf.up (by decide)) (by decide), ?_, hc, ?_⟩⟩
      · first | exact Or.inl ⟨by rw [hup_i (by decide)]; omega, rfl⟩ | exact Or.inr ⟨by rw [hup_i (by decide)]; omega, rfl⟩
      · exact hf.imp id (fun z => ⟨z.1, z.2.fr (S := [0]) (fr.rf.up (by decide)) (by decide)⟩)
    · skip
      refine wq_iconst (n := 0) (q := 58) rfl rfl rfl ?_
      refine wq_goto (tgt := 63) rfl rfl ?_
      refine wq_callV (q := 66) (m' := m_Lt_answer) (R' := rm 1) (As := [_]) rfl rfl l_Lt_113 vm_Lt_answer rfl rfl rfl (Or.inl ⟨rfl, Nat.le_of_ble_eq_true rfl⟩) (Nat.le_of_ble_eq_true rfl) (Nat.le_of_ble_eq_true rfl) (Nat.le_refl _) (Nat.le_refl _) (Nat.le_of_ble_eq_true rfl) (Lt_answer_ok _ h3 r3) rfl ?_
      rintro rv h4 r3 ⟨rfl, rfl, rfl⟩ -
      refine wq_iret rfl rfl (Nat.le_refl _) (Nat.le_refl _) ⟨_, rfl, q3.put 0, Or.inr ⟨hk, hup_s, w3.fr (S := [0]) (fr.rf.up (by decide)) (by decide), ?_, hc, ?_⟩⟩
      · first | exact Or.inl ⟨by rw [hup_i (by decide)]; omega, rfl⟩ | exact Or.inr ⟨by rw [hup_i (by decide)]; omega, rfl⟩
      · exact hf.imp id (fun z => ⟨z.1, z.2.fr (S := [0]) (fr.rf.up (by decide)) (by decide)⟩)
  · skip
    refine wq_iconst (n := -1) (q := 18) rfl rfl rfl ?_
    refine wq_iret rfl rfl (Nat.le_refl _) (Nat.le_refl _) ⟨_, rfl, q1, Or.inl ⟨by rw [hk]; exact c14, rfl, by rw [hk, hup_s]⟩⟩

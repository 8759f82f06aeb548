def Ans (k : Int) (Q : Int → Int → Prop) (v tr : Int) : Prop := (k ≠ 0 ∧ v = -1 ∧ tr = k) ∨ (k = 0 ∧ Q v tr)
theorem Ans.uniq {k : Int} {Q Q' : Int → Int → Prop} {v tr v' tr' : Int} (h : Ans k Q v tr) (h' : Ans k Q' v' tr') (hQ : k = 0 → Q v tr → Q' v' tr' → v = v' ∧ tr = tr') : v = v' ∧ tr = tr' := by
  rcases h with ⟨a, b, c⟩ | ⟨a, b⟩ <;> rcases h' with ⟨a', b', c'⟩ | ⟨a', b'⟩
  · omega
  · omega
  · omega
  · exact hQ a b b'
abbrev qP (h : mH) (r : mR) (P : Int → Int → Prop) : mP := fun rv h1 r1 => ∃ v, rv = some (vI v) ∧ P v (h1 0 12) ∧ qf h r h1 r1
theorem qP.no {h : mH} {r : mR} {h1 : mH} {r1 : mR} {k : Int} {Q : Int → Int → Prop} (q : qf h r h1 r1) (e : h1 0 12 = k) (hk : k ≠ 0) : qP h r (Ans k Q) (some (vI (-1))) h1 r1 := ⟨_, rfl, Or.inl ⟨hk, rfl, e⟩, q⟩
/-- what seekBest() finds -/
abbrev sbQ (h : mH) (r : mR) (a b t : Int) : mP := fun rv h1 r1 => ∃ v, rv = some (vI v) ∧ qf h r h1 r1 ∧ ((kP (h 2 1) a b (bI (isT t)) ≠ 0 ∧ v = -1 ∧ h1 0 12 = kP (h 2 1) a b (bI (isT t))) ∨ (kP (h 2 1) a b (bI (isT t)) = 0 ∧ h1 0 12 = 0 ∧ netW h1 r1 (dN h 0) ∧ ∃ w, found (dN h 0) a b t h1 w ∧ (w = 1 ∧ v = 0 ∨ w = 0 ∧ v = -2)))
theorem found.fr {S : List Nat} {h h1 : mH} {N : mN} {a b t v : Int} (hF : found N a b t h v) (f : fr S h h1) (hS : ∀ i ∈ fbC, i ∉ S) : found N a b t h1 v := by
  unfold found aimed wayIs at *
  rw [f 41 (hS _ (by decide)), f 42 (hS _ (by decide)), f 44 (hS _ (by decide)), f 45 (hS _ (by decide)), f 46 (hS _ (by decide)), f 47 (hS _ (by decide))]
  exact hF
theorem isbI {w : Int} (h : w = 0 ∨ w = 1) : ∃ P, w = bI P := ⟨w = 1, by rcases h with rfl | rfl; exact (bI_f (by omega)).symm; exact (bI_t rfl).symm⟩
theorem found.v {N : mN} {a b t v : Int} {h : mH} (hF : found N a b t h v) : v = 0 ∨ v = 1 := by
  rcases hF with ⟨-, e, -⟩ | ⟨-, -, f, -, ⟨-, e, -⟩ | ⟨-, e, -⟩⟩ <;> omega
set_option maxRecDepth 100000 in
set_option maxHeartbeats 1000000 in
theorem Lt_seekBest_ok (a b t : Int) (h : mH) (r : mR) (hI : IQ h r) : Meets true (rm 6) m_Lt_seekBest [vR 0, vI a, vI b, vI t] h r (sbQ h r a b t) := by
  have hcur := hI.2.2.2.1
  have q0 := qf.rf hI
  refine ⟨ok_Lt_seekBest, Nat.le_of_ble_eq_true rfl, ?_⟩
  refine wq_aload_n (kk := 0) (q := 1) rfl rfl rfl ?_
  refine wq_aload_n (kk := 0) (q := 2) rfl rfl rfl ?_
  refine wq_iload_n (kk := 1) (q := 3) rfl rfl rfl ?_
  refine wq_iload_n (kk := 2) (q := 4) rfl rfl rfl ?_
  refine wq_iload_n (kk := 3) (q := 5) rfl rfl rfl ?_
  refine wq_callS (q := 8) (m' := m_Lt_isTime) (R' := rm 1) (As := [_]) rfl rfl l_Lt_233 sm_Lt_isTime rfl (Nat.le_of_ble_eq_true rfl) (Nat.le_of_ble_eq_true rfl) (Nat.le_refl _) (Nat.le_refl _) (Nat.le_of_ble_eq_true rfl) (Lt_isTime_ok t h r) rfl ?_
  rintro rv h r ⟨rfl, rfl, rfl⟩ -
  refine wq_callV (q := 11) (m' := m_Lt_lookAtPair) (R' := rm 2) (As := [_, _, _]) rfl rfl l_Lt_236 vm_Lt_lookAtPair rfl rfl rfl (Or.inl ⟨rfl, Nat.le_of_ble_eq_true rfl⟩) (Nat.le_of_ble_eq_true rfl) (Nat.le_of_ble_eq_true rfl) (Nat.le_refl _) (Nat.le_refl _) (Nat.le_of_ble_eq_true rfl) (Lt_lookAtPair_ok a b _ h r hcur) rfl ?_
  rintro rv h r ⟨rfl, rfl, rfl⟩ -
  generalize hk : kP (h 2 1) a b (bI (isT t)) = k
  refine wq_callV (q := 14) (m' := m_Lt_isRefused) (R' := rm 1) (As := [_]) rfl rfl l_Lt_240 vm_Lt_isRefused rfl rfl rfl (Or.inl ⟨rfl, Nat.le_of_ble_eq_true rfl⟩) (Nat.le_of_ble_eq_true rfl) (Nat.le_of_ble_eq_true rfl) (Nat.le_refl _) (Nat.le_refl _) (Nat.le_of_ble_eq_true rfl) (Lt_isRefused_ok k h r) rfl ?_
  rintro rv h1 r ⟨rfl, rfl, rfl⟩ -
  have q1 := q0.put k
  refine wq_cif_eq (tgt := 19) (q := 17) rfl rfl rfl (fun c14 => ?_) (fun c14 => ?_)
  · skip
    refine wq_aload_n (kk := 0) (q := 20) rfl rfl rfl ?_
    refine wq_getF (q := 23) f_Lt_44 rfl rfl (Nat.le_of_ble_eq_true rfl) rfl rfl rfl ?_
    refine wq_aload_n (kk := 0) (q := 24) rfl rfl rfl ?_
    refine wq_getR (q := 27) f_Lt_16 rfl rfl (Or.inl ⟨rfl, Nat.le_of_ble_eq_true rfl⟩) hcur rfl rfl ?_
    refine wq_callV (q := 30) (m' := m_Ne_load) (R' := rm 4) (As := [_]) rfl rfl l_Lt_184 vm_Ne_load rfl rfl rfl (Or.inl ⟨rfl, Nat.le_of_ble_eq_true rfl⟩) (Nat.le_of_ble_eq_true rfl) (Nat.le_of_ble_eq_true rfl) (Nat.le_refl _) (Nat.le_refl _) (Nat.le_of_ble_eq_true rfl) (Lt_load q1) rfl ?_
    rintro rv h2 r2 ⟨rfl, q2, w2⟩ -
    have k0 : k = 0 := by simpa using c14
    subst k0
    have hab := kP_0 hk
    refine wq_aload_n (kk := 0) (q := 31) rfl rfl rfl ?_
    refine wq_aload_n (kk := 0) (q := 32) rfl rfl rfl ?_
    refine wq_getF (q := 35) f_Lt_51 rfl rfl (Nat.le_of_ble_eq_true rfl) rfl rfl rfl ?_
    refine wq_aload_n (kk := 0) (q := 36) rfl rfl rfl ?_
    refine wq_getF (q := 39) f_Lt_44 rfl rfl (Nat.le_of_ble_eq_true rfl) rfl rfl rfl ?_
    refine wq_iload_n (kk := 1) (q := 40) rfl rfl rfl ?_
    refine wq_iload_n (kk := 2) (q := 41) rfl rfl rfl ?_
    refine wq_iload_n (kk := 3) (q := 42) rfl rfl rfl ?_
    refine wq_callV (q := 45) (m' := m_Se_findBest) (R' := rm 5) (As := [_, _, _, _]) rfl rfl l_Lt_284 vm_Se_findBest rfl rfl rfl (Or.inl ⟨rfl, Nat.le_of_ble_eq_true rfl⟩) (Nat.le_of_ble_eq_true rfl) (Nat.le_of_ble_eq_true rfl) (Nat.le_refl _) (Nat.le_refl _) (Nat.le_of_ble_eq_true rfl) (Se_findBest_ok (dN h 0) a b t h2 r2 w2 hab.1.1) rfl ?_
    rintro rv h3 r3 ⟨rfl, f3, w, rfl, hf⟩ -
    have q3 := q2.scr f3 (by decide)
    have w3 := w2.fr f3 (by decide)
    obtain ⟨P, rfl⟩ := isbI hf.v
    refine wq_cif_eq (tgt := 52) (q := 48) rfl rfl rfl (fun c45 => ?_) (fun c45 => ?_)
    · skip
      refine wq_bipush (n := -2) (q := 54) rfl rfl rfl ?_
      refine wq_callV (q := 57) (m' := m_Lt_answer) (R' := rm 1) (As := [_]) rfl rfl l_Lt_113 vm_Lt_answer rfl rfl rfl (Or.inl ⟨rfl, Nat.le_of_ble_eq_true rfl⟩) (Nat.le_of_ble_eq_true rfl) (Nat.le_of_ble_eq_true rfl) (Nat.le_refl _) (Nat.le_refl _) (Nat.le_of_ble_eq_true rfl) (Lt_answer_ok _ h3 r3) rfl ?_
      rintro rv h4 r3 ⟨rfl, rfl, rfl⟩ -
      refine wq_iret rfl rfl (Nat.le_refl _) (Nat.le_refl _) ⟨_, rfl, q3.put 0, Or.inr ⟨hk, hup_s, w3.fr (S := [0]) (fr.rf.up (by decide)) (by decide), _, hf.fr (S := [0]) (fr.rf.up (by decide)) (by decide), ?_⟩⟩
      first | exact Or.inl ⟨bI_t c45, rfl⟩ | exact Or.inr ⟨bI_f c45, rfl⟩
    · skip
      refine wq_iconst (n := 0) (q := 49) rfl rfl rfl ?_
      refine wq_goto (tgt := 54) rfl rfl ?_
      refine wq_callV (q := 57) (m' := m_Lt_answer) (R' := rm 1) (As := [_]) rfl rfl l_Lt_113 vm_Lt_answer rfl rfl rfl (Or.inl ⟨rfl, Nat.le_of_ble_eq_true rfl⟩) (Nat.le_of_ble_eq_true rfl) (Nat.le_of_ble_eq_true rfl) (Nat.le_refl _) (Nat.le_refl _) (Nat.le_of_ble_eq_true rfl) (Lt_answer_ok _ h3 r3) rfl ?_
      rintro rv h4 r3 ⟨rfl, rfl, rfl⟩ -
      refine wq_iret rfl rfl (Nat.le_refl _) (Nat.le_refl _) ⟨_, rfl, q3.put 0, Or.inr ⟨hk, hup_s, w3.fr (S := [0]) (fr.rf.up (by decide)) (by decide), _, hf.fr (S := [0]) (fr.rf.up (by decide)) (by decide), ?_⟩⟩
      first | exact Or.inl ⟨bI_t c45, rfl⟩ | exact Or.inr ⟨bI_f c45, rfl⟩
  · skip
    refine wq_iconst (n := -1) (q := 18) rfl rfl rfl ?_
    refine wq_iret rfl rfl (Nat.le_refl _) (Nat.le_refl _) ⟨_, rfl, q1, Or.inl ⟨by rw [hk]; exact c14, rfl, by rw [hk, hup_s]⟩⟩
/-- questions of the BEST WAY: z where one is there, else what F tells of it -/
def Bq (N : mN) (a b t z : Int) (F : mF → mF → mF → mF → Int → Int) (v tr : Int) : Prop := tr = 0 ∧ ((a = b ∧ v = z) ∨ (a ≠ b ∧ ∃ B e c l x f, Bst N a b t B e c l x f ∧ (f = -1 ∧ v = -2 ∨ f ≠ -1 ∧ v = F e c l x f)))
theorem Bq.uniq {N : mN} {a b t z : Int} {F : mF → mF → mF → mF → Int → Int} {v tr v' tr' : Int} (hV : NV N) (hF : ∀ {B e c l x f B' e' c' l' x' f'}, Bst N a b t B e c l x f → Bst N a b t B' e' c' l' x' f' → f ≠ -1 → F e c l x f = F e' c' l' x' f') (h : Bq N a b t z F v tr) (h' : Bq N a b t z F v' tr') : v = v' ∧ tr = tr' := by
  obtain ⟨r1, h⟩ := h
  obtain ⟨r2, h'⟩ := h'
  refine ⟨?_, by omega⟩
  rcases h with ⟨e1, e2⟩ | ⟨e1, B, e, c, l, x, f, hB, hc⟩ <;> rcases h' with ⟨e1', e2'⟩ | ⟨e1', B', e', c', l', x', f', hB', hc'⟩
  · omega
  · omega
  · omega
  · have := (hB.eq hV hB').1
    subst this
    rcases hc with ⟨z1, z2⟩ | ⟨z1, z2⟩ <;> rcases hc' with ⟨y1, y2⟩ | ⟨y1, y2⟩
    · omega
    · omega
    · omega
    · rw [z2, y2]; exact hF hB hB' z1
theorem found.q {N : mN} {a b t z v w tr : Int} {h : mH} {F : mF → mF → mF → mF → Int → Int} (hf : found N a b t h w) (hw : w = 1 ∧ v = 0 ∨ w = 0 ∧ v = -2) (ht : tr = 0) (u : Int) (hu : v ≠ 0 → u = v) (h0 : v = 0 → a = b → u = z) (h1 : v = 0 → a ≠ b → ∀ f, aimed N b h → Bst N a b t 1000000 (h 44) (h 45) (h 46) (h 47) f → f ≠ -1 → wayIs N h f → u = F (h 44) (h 45) (h 46) (h 47) f) : Bq N a b t z F u tr := by
  refine ⟨ht, ?_⟩
  rcases hf with ⟨e, e1, -⟩ | ⟨e, hA, f, hB, ⟨f1, f2, -⟩ | ⟨f1, f2, f3⟩⟩
  · exact Or.inl ⟨e, h0 (by omega) e⟩
  · exact Or.inr ⟨e, _, _, _, _, _, f, hB, Or.inl ⟨f1, by have := hu (by omega); omega⟩⟩
  · exact Or.inr ⟨e, _, _, _, _, _, f, hB, Or.inr ⟨f1, h1 (by omega) e f hA hB f1 f3⟩⟩
set_option maxRecDepth 100000 in
set_option maxHeartbeats 1000000 in
theorem Lt_arrives_ok (a b t : Int) (h : mH) (r : mR) (hI : IQ h r) : Meets true (rm 7) m_Lt_arrives [vR 0, vI a, vI b, vI t] h r (qP h r (Ans (kP (h 2 1) a b (bI (isT t))) (Bq (dN h 0) a b t t (fun e _ _ _ f => e f)))) := by
  refine ⟨ok_Lt_arrives, Nat.le_of_ble_eq_true rfl, ?_⟩
  refine wq_aload_n (kk := 0) (q := 1) rfl rfl rfl ?_
  refine wq_iload_n (kk := 1) (q := 2) rfl rfl rfl ?_
  refine wq_iload_n (kk := 2) (q := 3) rfl rfl rfl ?_
  refine wq_iload_n (kk := 3) (q := 4) rfl rfl rfl ?_
  refine wq_callV (q := 7) (m' := m_Lt_seekBest) (R' := rm 6) (As := [_, _, _]) rfl rfl l_Lt_194 vm_Lt_seekBest rfl rfl rfl (Or.inl ⟨rfl, Nat.le_of_ble_eq_true rfl⟩) (Nat.le_of_ble_eq_true rfl) (Nat.le_of_ble_eq_true rfl) (Nat.le_refl _) (Nat.le_refl _) (Nat.le_of_ble_eq_true rfl) (Lt_seekBest_ok a b t h r hI) rfl ?_
  rintro rv h1 r1 ⟨v, rfl, q1, hs⟩ -
  refine wq_istore (i := 4) (q := 9) rfl rfl (Nat.le_of_ble_eq_true rfl) rfl ?_
  refine wq_iload (i := 4) (q := 11) rfl rfl rfl ?_
  refine wq_if_ne (tgt := 27) (q := 14) rfl rfl rfl (fun c11 => ?_) (fun c11 => ?_)
  · skip
    refine wq_iload (i := 4) (q := 29) rfl rfl rfl ?_
    refine wq_iret rfl rfl (Nat.le_refl _) (Nat.le_refl _) ⟨_, rfl, ?_, q1⟩
    rcases hs with ⟨z1, z2, z3⟩ | ⟨z1, z2, z3, w, z4, z5⟩
    · refine Or.inl ⟨z1, ?_, z3⟩
      first | omega | exact z2
    · refine Or.inr ⟨z1, z4.q z5 z2 _ (fun y => ?_) (fun y0 y => ?_) (fun y0 y f _ _ _ f3 => ?_)⟩
      · first | rfl | exact absurd c11 y | (exfalso; omega)
      · rcases z4 with z | z
        · first | exact z.2.2.2.2.1 | exact absurd y0 c11 | (exfalso; omega)
        · exact absurd y z.1
      · first | exact f3.2.2.1 | exact absurd y0 c11 | (exfalso; omega)
  · skip
    refine wq_aload_n (kk := 0) (q := 15) rfl rfl rfl ?_
    refine wq_getF (q := 18) f_Lt_51 rfl rfl (Nat.le_of_ble_eq_true rfl) rfl rfl rfl ?_
    refine wq_getF (q := 21) f_Lt_198 rfl rfl (Nat.le_of_ble_eq_true rfl) rfl rfl rfl ?_
    refine wq_getI (kz := 2) (q := 24) rfl f_Lt_202 rfl rfl (Or.inl ⟨rfl, Nat.le_of_ble_eq_true rfl⟩) rfl rfl ?_
    refine wq_goto (tgt := 29) rfl rfl ?_
    refine wq_iret rfl rfl (Nat.le_refl _) (Nat.le_refl _) ⟨_, rfl, ?_, q1⟩
    rcases hs with ⟨z1, z2, z3⟩ | ⟨z1, z2, z3, w, z4, z5⟩
    · refine Or.inl ⟨z1, ?_, z3⟩
      first | omega | exact z2
    · refine Or.inr ⟨z1, z4.q z5 z2 _ (fun y => ?_) (fun y0 y => ?_) (fun y0 y f _ _ _ f3 => ?_)⟩
      · first | rfl | exact absurd c11 y | (exfalso; omega)
      · rcases z4 with z | z
        · first | exact z.2.2.2.2.1 | exact absurd y0 c11 | (exfalso; omega)
        · exact absurd y z.1
      · first | exact f3.2.2.1 | exact absurd y0 c11 | (exfalso; omega)
set_option maxRecDepth 100000 in
set_option maxHeartbeats 1000000 in
theorem Lt_changes_ok (a b t : Int) (h : mH) (r : mR) (hI : IQ h r) : Meets true (rm 7) m_Lt_changes [vR 0, vI a, vI b, vI t] h r (qP h r (Ans (kP (h 2 1) a b (bI (isT t))) (Bq (dN h 0) a b t 0 (fun _ c _ _ f => c f)))) := by
  refine ⟨ok_Lt_changes, Nat.le_of_ble_eq_true rfl, ?_⟩
  refine wq_aload_n (kk := 0) (q := 1) rfl rfl rfl ?_
  refine wq_iload_n (kk := 1) (q := 2) rfl rfl rfl ?_
  refine wq_iload_n (kk := 2) (q := 3) rfl rfl rfl ?_
  refine wq_iload_n (kk := 3) (q := 4) rfl rfl rfl ?_
  refine wq_callV (q := 7) (m' := m_Lt_seekBest) (R' := rm 6) (As := [_, _, _]) rfl rfl l_Lt_194 vm_Lt_seekBest rfl rfl rfl (Or.inl ⟨rfl, Nat.le_of_ble_eq_true rfl⟩) (Nat.le_of_ble_eq_true rfl) (Nat.le_of_ble_eq_true rfl) (Nat.le_refl _) (Nat.le_refl _) (Nat.le_of_ble_eq_true rfl) (Lt_seekBest_ok a b t h r hI) rfl ?_
  rintro rv h1 r1 ⟨v, rfl, q1, hs⟩ -
  refine wq_istore (i := 4) (q := 9) rfl rfl (Nat.le_of_ble_eq_true rfl) rfl ?_
  refine wq_iload (i := 4) (q := 11) rfl rfl rfl ?_
  refine wq_if_ne (tgt := 27) (q := 14) rfl rfl rfl (fun c11 => ?_) (fun c11 => ?_)
  · skip
    refine wq_iload (i := 4) (q := 29) rfl rfl rfl ?_
    refine wq_iret rfl rfl (Nat.le_refl _) (Nat.le_refl _) ⟨_, rfl, ?_, q1⟩
    rcases hs with ⟨z1, z2, z3⟩ | ⟨z1, z2, z3, w, z4, z5⟩
    · refine Or.inl ⟨z1, ?_, z3⟩
      first | omega | exact z2
    · refine Or.inr ⟨z1, z4.q z5 z2 _ (fun y => ?_) (fun y0 y => ?_) (fun y0 y f _ _ _ f3 => ?_)⟩
      · first | rfl | exact absurd c11 y | (exfalso; omega)
      · rcases z4 with z | z
        · first | exact z.2.2.2.2.2 | exact absurd y0 c11 | (exfalso; omega)
        · exact absurd y z.1
      · first | exact f3.2.2.2.1 | exact absurd y0 c11 | (exfalso; omega)
  · skip
    refine wq_aload_n (kk := 0) (q := 15) rfl rfl rfl ?_
    refine wq_getF (q := 18) f_Lt_51 rfl rfl (Nat.le_of_ble_eq_true rfl) rfl rfl rfl ?_
    refine wq_getF (q := 21) f_Lt_198 rfl rfl (Nat.le_of_ble_eq_true rfl) rfl rfl rfl ?_
    refine wq_getI (kz := 3) (q := 24) rfl f_Lt_207 rfl rfl (Or.inl ⟨rfl, Nat.le_of_ble_eq_true rfl⟩) rfl rfl ?_
    refine wq_goto (tgt := 29) rfl rfl ?_
    refine wq_iret rfl rfl (Nat.le_refl _) (Nat.le_refl _) ⟨_, rfl, ?_, q1⟩
    rcases hs with ⟨z1, z2, z3⟩ | ⟨z1, z2, z3, w, z4, z5⟩
    · refine Or.inl ⟨z1, ?_, z3⟩
      first | omega | exact z2
    · refine Or.inr ⟨z1, z4.q z5 z2 _ (fun y => ?_) (fun y0 y => ?_) (fun y0 y f _ _ _ f3 => ?_)⟩
      · first | rfl | exact absurd c11 y | (exfalso; omega)
      · rcases z4 with z | z
        · first | exact z.2.2.2.2.2 | exact absurd y0 c11 | (exfalso; omega)
        · exact absurd y z.1
      · first | exact f3.2.2.2.1 | exact absurd y0 c11 | (exfalso; omega)
set_option maxRecDepth 100000 in
set_option maxHeartbeats 1000000 in
theorem Lt_leaves_ok (a b t : Int) (h : mH) (r : mR) (hI : IQ h r) : Meets true (rm 7) m_Lt_leaves [vR 0, vI a, vI b, vI t] h r (qP h r (Ans (kP (h 2 1) a b (bI (isT t))) (Bq (dN h 0) a b t t (fun _ _ _ _ f => lv (dN h 0) f)))) := by
  refine ⟨ok_Lt_leaves, Nat.le_of_ble_eq_true rfl, ?_⟩
  refine wq_aload_n (kk := 0) (q := 1) rfl rfl rfl ?_
  refine wq_iload_n (kk := 1) (q := 2) rfl rfl rfl ?_
  refine wq_iload_n (kk := 2) (q := 3) rfl rfl rfl ?_
  refine wq_iload_n (kk := 3) (q := 4) rfl rfl rfl ?_
  refine wq_callV (q := 7) (m' := m_Lt_seekBest) (R' := rm 6) (As := [_, _, _]) rfl rfl l_Lt_194 vm_Lt_seekBest rfl rfl rfl (Or.inl ⟨rfl, Nat.le_of_ble_eq_true rfl⟩) (Nat.le_of_ble_eq_true rfl) (Nat.le_of_ble_eq_true rfl) (Nat.le_refl _) (Nat.le_refl _) (Nat.le_of_ble_eq_true rfl) (Lt_seekBest_ok a b t h r hI) rfl ?_
  rintro rv h1 r1 ⟨v, rfl, q1, hs⟩ -
  refine wq_istore (i := 4) (q := 9) rfl rfl (Nat.le_of_ble_eq_true rfl) rfl ?_
  refine wq_iload (i := 4) (q := 11) rfl rfl rfl ?_
  refine wq_if_ne (tgt := 27) (q := 14) rfl rfl rfl (fun c11 => ?_) (fun c11 => ?_)
  · skip
    refine wq_iload (i := 4) (q := 29) rfl rfl rfl ?_
    refine wq_iret rfl rfl (Nat.le_refl _) (Nat.le_refl _) ⟨_, rfl, ?_, q1⟩
    rcases hs with ⟨z1, z2, z3⟩ | ⟨z1, z2, z3, w, z4, z5⟩
    · refine Or.inl ⟨z1, ?_, z3⟩
      first | omega | exact z2
    · refine Or.inr ⟨z1, z4.q z5 z2 _ (fun y => ?_) (fun y0 y => ?_) (fun y0 y f _ _ _ f3 => ?_)⟩
      · first | rfl | exact absurd c11 y | (exfalso; omega)
      · rcases z4 with z | z
        · first | exact z.2.2.2.1 | exact absurd y0 c11 | (exfalso; omega)
        · exact absurd y z.1
      · first | exact f3.2.1 | exact absurd y0 c11 | (exfalso; omega)
  · skip
    refine wq_aload_n (kk := 0) (q := 15) rfl rfl rfl ?_
    refine wq_getF (q := 18) f_Lt_51 rfl rfl (Nat.le_of_ble_eq_true rfl) rfl rfl rfl ?_
    refine wq_getF (q := 21) f_Lt_198 rfl rfl (Nat.le_of_ble_eq_true rfl) rfl rfl rfl ?_
    refine wq_getI (kz := 1) (q := 24) rfl f_Lt_210 rfl rfl (Or.inl ⟨rfl, Nat.le_of_ble_eq_true rfl⟩) rfl rfl ?_
    refine wq_goto (tgt := 29) rfl rfl ?_
    refine wq_iret rfl rfl (Nat.le_refl _) (Nat.le_refl _) ⟨_, rfl, ?_, q1⟩
    rcases hs with ⟨z1, z2, z3⟩ | ⟨z1, z2, z3, w, z4, z5⟩
    · refine Or.inl ⟨z1, ?_, z3⟩
      first | omega | exact z2
    · refine Or.inr ⟨z1, z4.q z5 z2 _ (fun y => ?_) (fun y0 y => ?_) (fun y0 y f _ _ _ f3 => ?_)⟩
      · first | rfl | exact absurd c11 y | (exfalso; omega)
      · rcases z4 with z | z
        · first | exact z.2.2.2.1 | exact absurd y0 c11 | (exfalso; omega)
        · exact absurd y z.1
      · first | exact f3.2.1 | exact absurd y0 c11 | (exfalso; omega)
set_option maxRecDepth 100000 in
set_option maxHeartbeats 1000000 in
theorem Lt_rides_ok (a b t : Int) (h : mH) (r : mR) (hI : IQ h r) : Meets true (rm 7) m_Lt_rides [vR 0, vI a, vI b, vI t] h r (qP h r (Ans (kP (h 2 1) a b (bI (isT t))) (Bq (dN h 0) a b t 0 (fun _ _ l _ f => l f)))) := by
  refine ⟨ok_Lt_rides, Nat.le_of_ble_eq_true rfl, ?_⟩
  refine wq_aload_n (kk := 0) (q := 1) rfl rfl rfl ?_
  refine wq_iload_n (kk := 1) (q := 2) rfl rfl rfl ?_
  refine wq_iload_n (kk := 2) (q := 3) rfl rfl rfl ?_
  refine wq_iload_n (kk := 3) (q := 4) rfl rfl rfl ?_
  refine wq_callV (q := 7) (m' := m_Lt_seekBest) (R' := rm 6) (As := [_, _, _]) rfl rfl l_Lt_194 vm_Lt_seekBest rfl rfl rfl (Or.inl ⟨rfl, Nat.le_of_ble_eq_true rfl⟩) (Nat.le_of_ble_eq_true rfl) (Nat.le_of_ble_eq_true rfl) (Nat.le_refl _) (Nat.le_refl _) (Nat.le_of_ble_eq_true rfl) (Lt_seekBest_ok a b t h r hI) rfl ?_
  rintro rv h1 r1 ⟨v, rfl, q1, hs⟩ -
  refine wq_istore (i := 4) (q := 9) rfl rfl (Nat.le_of_ble_eq_true rfl) rfl ?_
  refine wq_iload (i := 4) (q := 11) rfl rfl rfl ?_
  refine wq_if_ne (tgt := 27) (q := 14) rfl rfl rfl (fun c11 => ?_) (fun c11 => ?_)
  · skip
    refine wq_iload (i := 4) (q := 29) rfl rfl rfl ?_
    refine wq_iret rfl rfl (Nat.le_refl _) (Nat.le_refl _) ⟨_, rfl, ?_, q1⟩
    rcases hs with ⟨z1, z2, z3⟩ | ⟨z1, z2, z3, w, z4, z5⟩
    · refine Or.inl ⟨z1, ?_, z3⟩
      first | omega | exact z2
    · refine Or.inr ⟨z1, z4.q z5 z2 _ (fun y => ?_) (fun y0 y => ?_) (fun y0 y f _ _ _ f3 => ?_)⟩
      · first | rfl | exact absurd c11 y | (exfalso; omega)
      · rcases z4 with z | z
        · first | exact z.2.2.1 | exact absurd y0 c11 | (exfalso; omega)
        · exact absurd y z.1
      · first | exact f3.1 | exact absurd y0 c11 | (exfalso; omega)
  · skip
    refine wq_aload_n (kk := 0) (q := 15) rfl rfl rfl ?_
    refine wq_getF (q := 18) f_Lt_51 rfl rfl (Nat.le_of_ble_eq_true rfl) rfl rfl rfl ?_
    refine wq_getF (q := 21) f_Lt_198 rfl rfl (Nat.le_of_ble_eq_true rfl) rfl rfl rfl ?_
    refine wq_getI (kz := 0) (q := 24) rfl f_Lt_212 rfl rfl (Or.inl ⟨rfl, Nat.le_of_ble_eq_true rfl⟩) rfl rfl ?_
    refine wq_goto (tgt := 29) rfl rfl ?_
    refine wq_iret rfl rfl (Nat.le_refl _) (Nat.le_refl _) ⟨_, rfl, ?_, q1⟩
    rcases hs with ⟨z1, z2, z3⟩ | ⟨z1, z2, z3, w, z4, z5⟩
    · refine Or.inl ⟨z1, ?_, z3⟩
      first | omega | exact z2
    · refine Or.inr ⟨z1, z4.q z5 z2 _ (fun y => ?_) (fun y0 y => ?_) (fun y0 y f _ _ _ f3 => ?_)⟩
      · first | rfl | exact absurd c11 y | (exfalso; omega)
      · rcases z4 with z | z
        · first | exact z.2.2.1 | exact absurd y0 c11 | (exfalso; omega)
        · exact absurd y z.1
      · first | exact f3.1 | exact absurd y0 c11 | (exfalso; omega)

/-! LinkTimes.others, other -/
theorem netW_drop {h h1 : mH} {r : mR} {N : mN} (hw : netW h r N) {f : Int} (hW : wayIs N h f) (f1 : fr [34] h h1) (hd : ∀ d, (∃ j, 0 ≤ j ∧ j < h 41 0 ∧ h 42 j = d) ∧ h1 34 d = 0 ∨ (∀ j, 0 ≤ j → j < h 41 0 → h 42 j ≠ d) ∧ h1 34 d = h 34 d) : netW h1 r (dropW N (h 46) (h 47) f) := by
  obtain ⟨a, hV, hN, hO, hG⟩ := hw
  have hc := hW.1
  have hr := hW.2.2.2.2
  refine ⟨a, dropW_V hV _ _ _, ⟨?_, ?_, fun x hx => ?_, fun s s0 s1 => ?_⟩, ?_, ?_⟩
  · rw [f1 31 (by decide)]; exact hN.1
  · rw [f1 2 (by decide)]; exact hN.2.1
  · have z := hN.2.2.1 x hx
    rw [f1 32 (by decide), f1 33 (by decide), f1 6 (by decide), f1 7 (by decide), f1 5 (by decide)]
    refine ⟨z.1, z.2.1, z.2.2.1, z.2.2.2.1, z.2.2.2.2.1, ?_⟩
    rcases dropW_r (N := N) (l := h 46) (x := h 47) (f := f) (y := x) with ⟨⟨k, k1, k2⟩, e⟩ | ⟨k, e⟩
    · rw [e]
      rcases hd x with ⟨-, y⟩ | ⟨y, -⟩
      · exact y
      · exact absurd ((hr k k1).trans k2) (y k (by omega) (by omega))
    · rw [e]
      rcases hd x with ⟨⟨j, j0, j1, j2⟩, -⟩ | ⟨-, y⟩
      · exfalso
        have ej : ((j.toNat : Nat) : Int) = j := by omega
        refine k ⟨j.toNat, by omega, ?_⟩
        rw [← hr j.toNat (by omega), ej]
        exact j2
      · rw [y]; exact z.2.2.2.2.2
  · rw [f1 38 (by decide), f1 39 (by decide)]; exact hN.2.2.2 s s0 s1
  · unfold isO; rw [f1 35 (by decide)]; exact hO
  · unfold isG; rw [f1 36 (by decide), f1 37 (by decide)]; exact hG
theorem found.ne {N : mN} {a b t v : Int} {h : mH} (hf : found N a b t h v) (hab : a ≠ b) : aimed N b h ∧ ∃ f, Bst N a b t 1000000 (h 44) (h 45) (h 46) (h 47) f ∧ (f = -1 ∧ v = 0 ∧ h 41 0 = 0 ∨ f ≠ -1 ∧ v = 1 ∧ wayIs N h f) := by
  rcases hf with ⟨z, -⟩ | ⟨-, z⟩
  · exact absurd z hab
  · exact z
theorem aimed.row {N : mN} {a b t f : Int} {h : mH} (hV : NV N) (hA : aimed N b h) (hB : Bst N a b t 1000000 (h 44) (h 45) (h 46) (h 47) f) (hne : f ≠ -1) (hW : wayIs N h f) : (0 ≤ h 41 0 ∧ h 41 0 ≤ 120) ∧ ∀ i, 0 ≤ i → i < h 41 0 → 0 ≤ h 42 i ∧ h 42 i < 120 := by
  have hc := hB.fc hne
  have z := (hA.2 f hc.1).2
  have l := Lab.l2 hV hB.2.1 hB.1 hc.1 hc.2.1 hc.2.2.2.2
  have z' := z.resolve_left hc.2.2.2.2
  have w := hW.1
  refine ⟨by omega, fun i i0 i1 => ?_⟩
  have e : ((i.toNat : Nat) : Int) = i := by omega
  have y := hW.2.2.2.2 i.toNat (by omega)
  rw [e] at y
  rw [y]
  have u := (Lab.it hV hB.2.1 hB.1 hc.1 hc.2.1 hc.2.2.2.2 i.toNat (by omega)).1
  exact ⟨u.1, by have := u.2; have := hV.1; omega⟩
theorem Os.ext {N : mN} {a b t : Int} {e e' : mF} : ∀ {k : Nat} {M : mN}, Os N a b t e k M → (∀ j : Nat, j < k → e' j = e j) → Os N a b t e' k M
  | 0, _, h, _ => h
  | k + 1, _, ⟨M0, h1, B, ee, c, l, x, f, hB, hf, he, hM⟩, hj => ⟨M0, Os.ext h1 (fun j h => hj j (by omega)), B, ee, c, l, x, f, hB, hf, by rw [hj k (by omega)]; exact he, hM⟩
theorem Os.step {N : mN} {a b t : Int} {e : mF} {k : Int} {M : mN} (k0 : 0 ≤ k) (h : Os N a b t e k.toNat M) {B : Int} {ee c l x : mF} {f : Int} (hB : Bst M a b t B ee c l x f) (hf : f ≠ -1) : Os N a b t (fun j => if j = k then ee f else e j) (k + 1).toNat (dropW M l x f) := by
  have ek : (k + 1).toNat = k.toNat + 1 := by omega
  have e1 : ((k.toNat : Nat) : Int) = k := by omega
  rw [ek]
  refine ⟨M, h.ext (fun j hj => ?_), B, ee, c, l, x, f, hB, hf, ?_, rfl⟩
  · show (if (j : Int) = k then ee f else e j) = e j
    rw [if_neg (by omega)]
  · show (if ((k.toNat : Nat) : Int) = k then ee f else e _) = ee f
    rw [if_pos e1]
set_option maxRecDepth 100000 in
set_option maxHeartbeats 1000000 in
theorem Lt_othersL (a b t : Int) (h : mH) (r : mR) (hV : NV (dN h 0)) (hab : a ≠ b) (ha : 0 ≤ a ∧ a < h 2 1) (P : Int → Int → Prop) (K : ∀ v, Oq (dN h 0) a b t v → P v 0) : ∀ (M : Nat) (k : Int) (h1 : mH) (r1 : mR) (e : mF) (N1 : mN), (120 - k).toNat = M → 0 ≤ k → k ≤ 120 → qf h r h1 r1 → netW h1 r1 N1 → Os (dN h 0) a b t e k.toNat N1 → WP (true, rm 6) m_Lt_others (rt m_Lt_others (rm 6) (qP h r P)) 30 [some (vR 0), some (vI a), some (vI b), some (vI t), some (vI k)] [] h1 r1 (0, 0) := by
  intro M
  induction M using Nat.strongRecOn with
  | ind M ih =>
    intro k h1 r1 e N1 hM k0 k1 q1 w1 hO
    have hv := Os.V hV hO
    have hn := hV.1
    refine wq_iload (i := 4) (q := 32) rfl rfl rfl ?_
    refine wq_bipush (n := 120) (q := 34) rfl rfl rfl ?_
    refine wq_icmp_ge (tgt := 74) (q := 37) rfl rfl rfl (fun c34 => ?_) (fun c34 => ?_)
    · skip
      have fin : Oq (dN h 0) a b t k := by
        first
        | exact ⟨k.toNat, N1, e, hO, Os.stop hV hO (by omega), by omega⟩
        | (obtain ⟨-, f, hB, ⟨e1, -, -⟩ | ⟨-, e1, -⟩⟩ := hf'
           · exact ⟨k.toNat, N1, e, hO, NM.of hv.1 hB e1, by omega⟩
           · rw [bI_f c51] at e1; omega)
      refine wq_aload_n (kk := 0) (q := 75) rfl rfl rfl ?_
      refine wq_iload (i := 4) (q := 77) rfl rfl rfl ?_
      refine wq_callV (q := 80) (m' := m_Lt_answer) (R' := rm 1) (As := [_]) rfl rfl l_Lt_113 vm_Lt_answer rfl rfl rfl (Or.inl ⟨rfl, Nat.le_of_ble_eq_true rfl⟩) (Nat.le_of_ble_eq_true rfl) (Nat.le_of_ble_eq_true rfl) (Nat.le_refl _) (Nat.le_refl _) (Nat.le_of_ble_eq_true rfl) (Lt_answer_ok _ _ _) rfl ?_
      rintro rv h5 r1 ⟨rfl, rfl, rfl⟩ -
      first
      | exact wq_iret rfl rfl (Nat.le_refl _) (Nat.le_refl _) ⟨_, rfl, by rw [hup_s]; exact K _ fin, q3.put 0⟩
      | exact wq_iret rfl rfl (Nat.le_refl _) (Nat.le_refl _) ⟨_, rfl, by rw [hup_s]; exact K _ fin, q1.put 0⟩
    · skip
      refine wq_aload_n (kk := 0) (q := 38) rfl rfl rfl ?_
      refine wq_getF (q := 41) f_Lt_51 rfl rfl (Nat.le_of_ble_eq_true rfl) rfl rfl rfl ?_
      refine wq_aload_n (kk := 0) (q := 42) rfl rfl rfl ?_
      refine wq_getF (q := 45) f_Lt_44 rfl rfl (Nat.le_of_ble_eq_true rfl) rfl rfl rfl ?_
      refine wq_iload_n (kk := 1) (q := 46) rfl rfl rfl ?_
      refine wq_iload_n (kk := 2) (q := 47) rfl rfl rfl ?_
      refine wq_iload_n (kk := 3) (q := 48) rfl rfl rfl ?_
      refine wq_callV (q := 51) (m' := m_Se_findBest) (R' := rm 5) (As := [_, _, _, _]) rfl rfl l_Lt_284 vm_Se_findBest rfl rfl rfl (Or.inl ⟨rfl, Nat.le_of_ble_eq_true rfl⟩) (Nat.le_of_ble_eq_true rfl) (Nat.le_of_ble_eq_true rfl) (Nat.le_refl _) (Nat.le_refl _) (Nat.le_of_ble_eq_true rfl) (Se_findBest_ok N1 a b t h1 r1 w1 (by rw [hv.2.2]; exact ha)) rfl ?_
      rintro rv h3 r1 ⟨rfl, f3, w, rfl, hf⟩ -
      have q3 := q1.scr f3 (by decide)
      have w3 := w1.fr f3 (by decide)
      obtain ⟨P', rfl⟩ := isbI hf.v
      have hf' := hf.ne hab
      refine wq_cif_eq (tgt := 74) (q := 54) rfl rfl rfl (fun c51 => ?_) (fun c51 => ?_)
      · skip
        have fin : Oq (dN h 0) a b t k := by
          first
          | exact ⟨k.toNat, N1, e, hO, Os.stop hV hO (by omega), by omega⟩
          | (obtain ⟨-, f, hB, ⟨e1, -, -⟩ | ⟨-, e1, -⟩⟩ := hf'
             · exact ⟨k.toNat, N1, e, hO, NM.of hv.1 hB e1, by omega⟩
             · rw [bI_f c51] at e1; omega)
        refine wq_aload_n (kk := 0) (q := 75) rfl rfl rfl ?_
        refine wq_iload (i := 4) (q := 77) rfl rfl rfl ?_
        refine wq_callV (q := 80) (m' := m_Lt_answer) (R' := rm 1) (As := [_]) rfl rfl l_Lt_113 vm_Lt_answer rfl rfl rfl (Or.inl ⟨rfl, Nat.le_of_ble_eq_true rfl⟩) (Nat.le_of_ble_eq_true rfl) (Nat.le_of_ble_eq_true rfl) (Nat.le_refl _) (Nat.le_refl _) (Nat.le_of_ble_eq_true rfl) (Lt_answer_ok _ _ _) rfl ?_
        rintro rv h5 r1 ⟨rfl, rfl, rfl⟩ -
        first
        | exact wq_iret rfl rfl (Nat.le_refl _) (Nat.le_refl _) ⟨_, rfl, by rw [hup_s]; exact K _ fin, q3.put 0⟩
        | exact wq_iret rfl rfl (Nat.le_refl _) (Nat.le_refl _) ⟨_, rfl, by rw [hup_s]; exact K _ fin, q1.put 0⟩
      · skip
        obtain ⟨hA, f, hB, ⟨-, e1, -⟩ | ⟨e1, -, hW⟩⟩ := hf'
        · rw [bI_t c51] at e1; omega
        have hrow := hA.row hv.1 hB e1 hW
        refine wq_iinc (i := 4) (n := 1) (q := 57) rfl rfl rfl (Nat.le_of_ble_eq_true rfl) rfl (by first | omega | (simp [hup]; omega)) (by first | omega | (simp [hup]; omega)) ?_
        refine wq_aload_n (kk := 0) (q := 58) rfl rfl rfl ?_
        refine wq_getF (q := 61) f_Lt_44 rfl rfl (Nat.le_of_ble_eq_true rfl) rfl rfl rfl ?_
        refine wq_aload_n (kk := 0) (q := 62) rfl rfl rfl ?_
        refine wq_getF (q := 65) f_Lt_51 rfl rfl (Nat.le_of_ble_eq_true rfl) rfl rfl rfl ?_
        refine wq_getF (q := 68) f_Lt_198 rfl rfl (Nat.le_of_ble_eq_true rfl) rfl rfl rfl ?_
        refine wq_callV (q := 71) (m' := m_Ne_dropAll) (R' := rm 1) (As := [_]) rfl rfl l_Lt_288 vm_Ne_dropAll rfl rfl rfl (Or.inl ⟨rfl, Nat.le_of_ble_eq_true rfl⟩) (Nat.le_of_ble_eq_true rfl) (Nat.le_of_ble_eq_true rfl) (Nat.le_refl _) (Nat.le_refl _) (Nat.le_of_ble_eq_true rfl) (Ne_dropAll_ok h3 r1 _ rfl hrow.1 hrow.2) rfl ?_
        rintro rv h4 r1 ⟨rfl, rfl, f4, hd⟩ -
        have q4 := q3.scr f4 (by decide)
        have w4 := netW_drop w3 hW f4 hd
        refine wq_goto (tgt := 30) rfl rfl ?_
        exact ih _ (by omega) (k + 1) _ _ _ _ rfl (by omega) (by omega) q4 w4 (hO.step k0 hB e1)
set_option maxRecDepth 100000 in
set_option maxHeartbeats 1000000 in
theorem Lt_others_ok (a b t : Int) (h : mH) (r : mR) (hI : IQ h r) : Meets true (rm 6) m_Lt_others [vR 0, vI a, vI b, vI t] h r (qP h r (Ans (kX (h 2 1) a b (bI (isT t))) (fun v tr => tr = 0 ∧ Oq (dN h 0) a b t v))) := by
  have hcur := hI.2.2.2.1
  have q0 := qf.rf hI
  have hV := dN_V hI.1 0
  refine ⟨ok_Lt_others, Nat.le_of_ble_eq_true rfl, ?_⟩
  refine wq_aload_n (kk := 0) (q := 1) rfl rfl rfl ?_
  refine wq_aload_n (kk := 0) (q := 2) rfl rfl rfl ?_
  refine wq_iload_n (kk := 1) (q := 3) rfl rfl rfl ?_
  refine wq_iload_n (kk := 2) (q := 4) rfl rfl rfl ?_
  refine wq_iload_n (kk := 3) (q := 5) rfl rfl rfl ?_
  refine wq_callV (q := 8) (m' := m_Lt_lookAtUnlike) (R' := rm 3) (As := [_, _, _]) rfl rfl l_Lt_281 vm_Lt_lookAtUnlike rfl rfl rfl (Or.inl ⟨rfl, Nat.le_of_ble_eq_true rfl⟩) (Nat.le_of_ble_eq_true rfl) (Nat.le_of_ble_eq_true rfl) (Nat.le_refl _) (Nat.le_refl _) (Nat.le_of_ble_eq_true rfl) (Lt_lookAtUnlike_ok a b t h r hcur) rfl ?_
  rintro rv h r ⟨rfl, rfl, rfl⟩ -
  generalize hk : kX (h 2 1) a b (bI (isT t)) = k
  refine wq_callV (q := 11) (m' := m_Lt_isRefused) (R' := rm 1) (As := [_]) rfl rfl l_Lt_240 vm_Lt_isRefused rfl rfl rfl (Or.inl ⟨rfl, Nat.le_of_ble_eq_true rfl⟩) (Nat.le_of_ble_eq_true rfl) (Nat.le_of_ble_eq_true rfl) (Nat.le_refl _) (Nat.le_refl _) (Nat.le_of_ble_eq_true rfl) (Lt_isRefused_ok k h r) rfl ?_
  rintro rv h1 r ⟨rfl, rfl, rfl⟩ -
  have q1 := q0.put k
  refine wq_cif_eq (tgt := 16) (q := 14) rfl rfl rfl (fun c11 => ?_) (fun c11 => ?_)
  · skip
    refine wq_aload_n (kk := 0) (q := 17) rfl rfl rfl ?_
    refine wq_getF (q := 20) f_Lt_44 rfl rfl (Nat.le_of_ble_eq_true rfl) rfl rfl rfl ?_
    refine wq_aload_n (kk := 0) (q := 21) rfl rfl rfl ?_
    refine wq_getR (q := 24) f_Lt_16 rfl rfl (Or.inl ⟨rfl, Nat.le_of_ble_eq_true rfl⟩) hcur rfl rfl ?_
    refine wq_callV (q := 27) (m' := m_Ne_load) (R' := rm 4) (As := [_]) rfl rfl l_Lt_184 vm_Ne_load rfl rfl rfl (Or.inl ⟨rfl, Nat.le_of_ble_eq_true rfl⟩) (Nat.le_of_ble_eq_true rfl) (Nat.le_of_ble_eq_true rfl) (Nat.le_refl _) (Nat.le_refl _) (Nat.le_of_ble_eq_true rfl) (Lt_load q1) rfl ?_
    rintro rv h2 r2 ⟨rfl, q2, w2⟩ -
    have k0 : k = 0 := by simpa using c11
    subst k0
    have hab := kX_0 hk
    refine wq_iconst (n := 0) (q := 28) rfl rfl rfl ?_
    refine wq_istore (i := 4) (q := 30) rfl rfl (Nat.le_of_ble_eq_true rfl) rfl ?_
    exact Lt_othersL a b t h r hV hab.1.1 hab.1.2.1 _ (fun v hv => Or.inr ⟨rfl, rfl, hv⟩) _ 0 _ _ (fun _ => 0) _ rfl (by omega) (by omega) q2 w2 rfl
  · skip
    refine wq_iconst (n := -1) (q := 15) rfl rfl rfl ?_
    exact wq_iret rfl rfl (Nat.le_refl _) (Nat.le_refl _) ⟨_, rfl, Or.inl ⟨c11, rfl, hup_s⟩, q1⟩
set_option maxRecDepth 100000 in
set_option maxHeartbeats 1000000 in
theorem Lt_otherL (a b t i : Int) (h : mH) (r : mR) (hV : NV (dN h 0)) (hab : a ≠ b) (ha : 0 ≤ a ∧ a < h 2 1) (hi : 0 ≤ i ∧ i < 120) (P : Int → Int → Prop) (K : ∀ v tr, OtC (dN h 0) a b t i v tr → P v tr) : ∀ (M : Nat) (k : Int) (h1 : mH) (r1 : mR) (e : mF) (N1 : mN), (i + 1 - k).toNat = M → 0 ≤ k → k ≤ i + 1 → qf h r h1 r1 → netW h1 r1 N1 → Os (dN h 0) a b t e k.toNat N1 → (0 < k → h1 41 2 = e (k - 1)) → WP (true, rm 6) m_Lt_other (rt m_Lt_other (rm 6) (qP h r P)) 48 [some (vR 0), some (vI a), some (vI b), some (vI t), some (vI i), some (vI k)] [] h1 r1 (0, 0) := by
  intro M
  induction M using Nat.strongRecOn with
  | ind M ih =>
    intro k h1 r1 e N1 hM k0 k1 q1 w1 hO hE
    have hv := Os.V hV hO
    refine wq_iload (i := 5) (q := 50) rfl rfl rfl ?_
    refine wq_iload (i := 4) (q := 52) rfl rfl rfl ?_
    refine wq_icmp_gt (tgt := 98) (q := 55) rfl rfl rfl (fun c52 => ?_) (fun c52 => ?_)
    · skip
      refine wq_aload_n (kk := 0) (q := 99) rfl rfl rfl ?_
      refine wq_aload_n (kk := 0) (q := 100) rfl rfl rfl ?_
      refine wq_getF (q := 103) f_Lt_51 rfl rfl (Nat.le_of_ble_eq_true rfl) rfl rfl rfl ?_
      refine wq_getF (q := 106) f_Lt_198 rfl rfl (Nat.le_of_ble_eq_true rfl) rfl rfl rfl ?_
      refine wq_getI (kz := 2) (q := 109) rfl f_Lt_202 rfl rfl (Or.inl ⟨rfl, Nat.le_of_ble_eq_true rfl⟩) rfl rfl ?_
      refine wq_callV (q := 112) (m' := m_Lt_answer) (R' := rm 1) (As := [_]) rfl rfl l_Lt_113 vm_Lt_answer rfl rfl rfl (Or.inl ⟨rfl, Nat.le_of_ble_eq_true rfl⟩) (Nat.le_of_ble_eq_true rfl) (Nat.le_of_ble_eq_true rfl) (Nat.le_refl _) (Nat.le_refl _) (Nat.le_of_ble_eq_true rfl) (Lt_answer_ok _ _ _) rfl ?_
      rintro rv h5 r1 ⟨rfl, rfl, rfl⟩ -
      refine wq_iret rfl rfl (Nat.le_refl _) (Nat.le_refl _) ⟨_, rfl, ?_, q1.put 0⟩
      rw [hup_s]
      have ek : k = i + 1 := by omega
      subst ek
      refine K _ _ (Or.inr (Or.inr ⟨hi, N1, e, hO, ?_, rfl⟩))
      have := hE (by omega)
      rw [this]
      congr 1
      omega
    · skip
      refine wq_aload_n (kk := 0) (q := 56) rfl rfl rfl ?_
      refine wq_getF (q := 59) f_Lt_51 rfl rfl (Nat.le_of_ble_eq_true rfl) rfl rfl rfl ?_
      refine wq_aload_n (kk := 0) (q := 60) rfl rfl rfl ?_
      refine wq_getF (q := 63) f_Lt_44 rfl rfl (Nat.le_of_ble_eq_true rfl) rfl rfl rfl ?_
      refine wq_iload_n (kk := 1) (q := 64) rfl rfl rfl ?_
      refine wq_iload_n (kk := 2) (q := 65) rfl rfl rfl ?_
      refine wq_iload_n (kk := 3) (q := 66) rfl rfl rfl ?_
      refine wq_callV (q := 69) (m' := m_Se_findBest) (R' := rm 5) (As := [_, _, _, _]) rfl rfl l_Lt_284 vm_Se_findBest rfl rfl rfl (Or.inl ⟨rfl, Nat.le_of_ble_eq_true rfl⟩) (Nat.le_of_ble_eq_true rfl) (Nat.le_of_ble_eq_true rfl) (Nat.le_refl _) (Nat.le_refl _) (Nat.le_of_ble_eq_true rfl) (Se_findBest_ok N1 a b t h1 r1 w1 (by rw [hv.2.2]; exact ha)) rfl ?_
      rintro rv h3 r1 ⟨rfl, f3, w, rfl, hf⟩ -
      have q3 := q1.scr f3 (by decide)
      have w3 := w1.fr f3 (by decide)
      obtain ⟨P', rfl⟩ := isbI hf.v
      have hf' := hf.ne hab
      refine wq_cif_ne (tgt := 78) (q := 72) rfl rfl rfl (fun c69 => ?_) (fun c69 => ?_)
      · skip
        obtain ⟨hA, f, hB, ⟨-, e1, -⟩ | ⟨e1, -, hW⟩⟩ := hf'
        · rw [bI_t c69] at e1; omega
        have hrow := hA.row hv.1 hB e1 hW
        refine wq_aload_n (kk := 0) (q := 79) rfl rfl rfl ?_
        refine wq_getF (q := 82) f_Lt_44 rfl rfl (Nat.le_of_ble_eq_true rfl) rfl rfl rfl ?_
        refine wq_aload_n (kk := 0) (q := 83) rfl rfl rfl ?_
        refine wq_getF (q := 86) f_Lt_51 rfl rfl (Nat.le_of_ble_eq_true rfl) rfl rfl rfl ?_
        refine wq_getF (q := 89) f_Lt_198 rfl rfl (Nat.le_of_ble_eq_true rfl) rfl rfl rfl ?_
        refine wq_callV (q := 92) (m' := m_Ne_dropAll) (R' := rm 1) (As := [_]) rfl rfl l_Lt_288 vm_Ne_dropAll rfl rfl rfl (Or.inl ⟨rfl, Nat.le_of_ble_eq_true rfl⟩) (Nat.le_of_ble_eq_true rfl) (Nat.le_of_ble_eq_true rfl) (Nat.le_refl _) (Nat.le_refl _) (Nat.le_of_ble_eq_true rfl) (Ne_dropAll_ok h3 r1 _ rfl hrow.1 hrow.2) rfl ?_
        rintro rv h4 r1 ⟨rfl, rfl, f4, hd⟩ -
        have q4 := q3.scr f4 (by decide)
        have w4 := netW_drop w3 hW f4 hd
        refine wq_iinc (i := 5) (n := 1) (q := 95) rfl rfl rfl (Nat.le_of_ble_eq_true rfl) rfl (by first | omega | (simp [hup]; omega)) (by first | omega | (simp [hup]; omega)) ?_
        refine wq_goto (tgt := 48) rfl rfl ?_
        refine ih _ (by omega) (k + 1) _ _ _ _ rfl (by omega) (by omega) q4 w4 (hO.step k0 hB e1) (fun _ => ?_)
        rw [f4.at 41 2 (by decide), hW.2.2.1]
        show _ = if k + 1 - 1 = k then _ else _
        rw [if_pos (by omega)]
      · skip
        refine wq_aload_n (kk := 0) (q := 73) rfl rfl rfl ?_
        refine wq_iconst (n := 1) (q := 74) rfl rfl rfl ?_
        refine wq_callV (q := 77) (m' := m_Lt_refuse) (R' := rm 1) (As := [_]) rfl rfl l_Lt_87 vm_Lt_refuse rfl rfl rfl (Or.inl ⟨rfl, Nat.le_of_ble_eq_true rfl⟩) (Nat.le_of_ble_eq_true rfl) (Nat.le_of_ble_eq_true rfl) (Nat.le_refl _) (Nat.le_refl _) (Nat.le_of_ble_eq_true rfl) (Lt_refuse_ok _ _ _) rfl ?_
        rintro rv h5 r1 ⟨rfl, rfl, rfl⟩ -
        refine wq_iret rfl rfl (Nat.le_refl _) (Nat.le_refl _) ⟨_, rfl, ?_, q3.put 1⟩
        rw [hup_s]
        refine K _ _ (Or.inr (Or.inl ⟨k.toNat, N1, e, by omega, hO, ?_, rfl, rfl⟩))
        obtain ⟨-, f, hB, ⟨e1, -, -⟩ | ⟨-, e1, -⟩⟩ := hf'
        · exact NM.of hv.1 hB e1
        · rw [bI_f c69] at e1; omega
set_option maxRecDepth 100000 in
set_option maxHeartbeats 1000000 in
theorem Lt_other_ok (a b t i : Int) (h : mH) (r : mR) (hI : IQ h r) : Meets true (rm 6) m_Lt_other [vR 0, vI a, vI b, vI t, vI i] h r (qP h r (Ans (kX (h 2 1) a b (bI (isT t))) (OtC (dN h 0) a b t i))) := by
  have hcur := hI.2.2.2.1
  have q0 := qf.rf hI
  have hV := dN_V hI.1 0
  refine ⟨ok_Lt_other, Nat.le_of_ble_eq_true rfl, ?_⟩
  refine wq_aload_n (kk := 0) (q := 1) rfl rfl rfl ?_
  refine wq_aload_n (kk := 0) (q := 2) rfl rfl rfl ?_
  refine wq_iload_n (kk := 1) (q := 3) rfl rfl rfl ?_
  refine wq_iload_n (kk := 2) (q := 4) rfl rfl rfl ?_
  refine wq_iload_n (kk := 3) (q := 5) rfl rfl rfl ?_
  refine wq_callV (q := 8) (m' := m_Lt_lookAtUnlike) (R' := rm 3) (As := [_, _, _]) rfl rfl l_Lt_281 vm_Lt_lookAtUnlike rfl rfl rfl (Or.inl ⟨rfl, Nat.le_of_ble_eq_true rfl⟩) (Nat.le_of_ble_eq_true rfl) (Nat.le_of_ble_eq_true rfl) (Nat.le_refl _) (Nat.le_refl _) (Nat.le_of_ble_eq_true rfl) (Lt_lookAtUnlike_ok a b t h r hcur) rfl ?_
  rintro rv h r ⟨rfl, rfl, rfl⟩ -
  generalize hk : kX (h 2 1) a b (bI (isT t)) = k
  refine wq_callV (q := 11) (m' := m_Lt_isRefused) (R' := rm 1) (As := [_]) rfl rfl l_Lt_240 vm_Lt_isRefused rfl rfl rfl (Or.inl ⟨rfl, Nat.le_of_ble_eq_true rfl⟩) (Nat.le_of_ble_eq_true rfl) (Nat.le_of_ble_eq_true rfl) (Nat.le_refl _) (Nat.le_refl _) (Nat.le_of_ble_eq_true rfl) (Lt_isRefused_ok k h r) rfl ?_
  rintro rv h1 r ⟨rfl, rfl, rfl⟩ -
  have q1 := q0.put k
  refine wq_cif_eq (tgt := 16) (q := 14) rfl rfl rfl (fun c11 => ?_) (fun c11 => ?_)
  · skip
    have k0 : k = 0 := by simpa using c11
    subst k0
    have hab := kX_0 hk
    refine wq_iload (i := 4) (q := 18) rfl rfl rfl ?_
    refine wq_if_lt (tgt := 28) (q := 21) rfl rfl rfl (fun c18 => ?_) (fun c18 => ?_)
    · skip
      refine wq_aload_n (kk := 0) (q := 29) rfl rfl rfl ?_
      refine wq_iconst (n := 1) (q := 30) rfl rfl rfl ?_
      refine wq_callV (q := 33) (m' := m_Lt_refuse) (R' := rm 1) (As := [_]) rfl rfl l_Lt_87 vm_Lt_refuse rfl rfl rfl (Or.inl ⟨rfl, Nat.le_of_ble_eq_true rfl⟩) (Nat.le_of_ble_eq_true rfl) (Nat.le_of_ble_eq_true rfl) (Nat.le_refl _) (Nat.le_refl _) (Nat.le_of_ble_eq_true rfl) (Lt_refuse_ok _ _ _) rfl ?_
      rintro rv h5 r ⟨rfl, rfl, rfl⟩ -
      exact wq_iret rfl rfl (Nat.le_refl _) (Nat.le_refl _) ⟨_, rfl, Or.inr ⟨rfl, Or.inl ⟨by omega, rfl, hup_s⟩⟩, q1.put 1⟩
    · skip
      refine wq_iload (i := 4) (q := 23) rfl rfl rfl ?_
      refine wq_bipush (n := 120) (q := 25) rfl rfl rfl ?_
      refine wq_icmp_lt (tgt := 34) (q := 28) rfl rfl rfl (fun c25 => ?_) (fun c25 => ?_)
      · skip
        refine wq_aload_n (kk := 0) (q := 35) rfl rfl rfl ?_
        refine wq_getF (q := 38) f_Lt_44 rfl rfl (Nat.le_of_ble_eq_true rfl) rfl rfl rfl ?_
        refine wq_aload_n (kk := 0) (q := 39) rfl rfl rfl ?_
        refine wq_getR (q := 42) f_Lt_16 rfl rfl (Or.inl ⟨rfl, Nat.le_of_ble_eq_true rfl⟩) hcur rfl rfl ?_
        refine wq_callV (q := 45) (m' := m_Ne_load) (R' := rm 4) (As := [_]) rfl rfl l_Lt_184 vm_Ne_load rfl rfl rfl (Or.inl ⟨rfl, Nat.le_of_ble_eq_true rfl⟩) (Nat.le_of_ble_eq_true rfl) (Nat.le_of_ble_eq_true rfl) (Nat.le_refl _) (Nat.le_refl _) (Nat.le_of_ble_eq_true rfl) (Lt_load q1) rfl ?_
        rintro rv h2 r2 ⟨rfl, q2, w2⟩ -
        refine wq_iconst (n := 0) (q := 46) rfl rfl rfl ?_
        refine wq_istore (i := 5) (q := 48) rfl rfl (Nat.le_of_ble_eq_true rfl) rfl ?_
        exact Lt_otherL a b t i h r hV hab.1.1 hab.1.2.1 (by omega) _ (fun v tr hv => Or.inr ⟨rfl, hv⟩) _ 0 _ _ (fun _ => 0) _ rfl (by omega) (by omega) q2 w2 rfl (fun z => by omega)
      · skip
        refine wq_aload_n (kk := 0) (q := 29) rfl rfl rfl ?_
        refine wq_iconst (n := 1) (q := 30) rfl rfl rfl ?_
        refine wq_callV (q := 33) (m' := m_Lt_refuse) (R' := rm 1) (As := [_]) rfl rfl l_Lt_87 vm_Lt_refuse rfl rfl rfl (Or.inl ⟨rfl, Nat.le_of_ble_eq_true rfl⟩) (Nat.le_of_ble_eq_true rfl) (Nat.le_of_ble_eq_true rfl) (Nat.le_refl _) (Nat.le_refl _) (Nat.le_of_ble_eq_true rfl) (Lt_refuse_ok _ _ _) rfl ?_
        rintro rv h5 r ⟨rfl, rfl, rfl⟩ -
        exact wq_iret rfl rfl (Nat.le_refl _) (Nat.le_refl _) ⟨_, rfl, Or.inr ⟨rfl, Or.inl ⟨by omega, rfl, hup_s⟩⟩, q1.put 1⟩
  · skip
    refine wq_iconst (n := -1) (q := 15) rfl rfl rfl ?_
    exact wq_iret rfl rfl (Nat.le_refl _) (Nat.le_refl _) ⟨_, rfl, Or.inl ⟨c11, rfl, hup_s⟩, q1⟩

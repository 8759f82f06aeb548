/-! LinkTimesModel: laysGoal, firstOf, best -/
set_option maxRecDepth 100000 in
theorem Mo_isLessRow_ok (a b : Int) (hab : a ≠ b) (h : mH) (r : mR) : Meets true (rm 1) m_Mo_isLessRow [vR 64, vI a, vI b] h r (pI (bI (a < b)) h r) := by
  refine ⟨ok_Mo_isLessRow, Nat.le_of_ble_eq_true rfl, ?_⟩
  refine wq_iload_n (kk := 1) (q := 1) rfl rfl rfl ?_
  refine wq_istore_n (kk := 3) (q := 2) rfl rfl (Nat.le_of_ble_eq_true rfl) rfl ?_
  refine wq_iload_n (kk := 2) (q := 3) rfl rfl rfl ?_
  refine wq_istore (i := 4) (q := 5) rfl rfl (Nat.le_of_ble_eq_true rfl) rfl ?_
  refine wq_iload_n (kk := 3) (q := 6) rfl rfl rfl ?_
  refine wq_iload (i := 4) (q := 8) rfl rfl rfl ?_
  refine wq_icmp_ne (tgt := 35) (q := 11) rfl rfl rfl (fun c8 => ?_) (fun c8 => ?_)
  · skip
    refine wq_iload_n (kk := 3) (q := 36) rfl rfl rfl ?_
    refine wq_iload (i := 4) (q := 38) rfl rfl rfl ?_
    refine wq_icmp_ge (tgt := 45) (q := 41) rfl rfl rfl (fun c38 => ?_) (fun c38 => ?_)
    · skip
      refine wq_iconst (n := 0) (q := 46) rfl rfl rfl ?_
      refine wq_zret rfl rfl (Nat.le_refl _) (Nat.le_refl _) (by omega) ?_
      first | exact ⟨rfl, rfl, rfl⟩ | exact pB_t (by omega) | exact pB_f (by omega) | exact pC_t (by omega) | exact pC_f (by omega) | (exfalso; omega)
    · skip
      refine wq_iconst (n := 1) (q := 42) rfl rfl rfl ?_
      refine wq_goto (tgt := 46) rfl rfl ?_
      refine wq_zret rfl rfl (Nat.le_refl _) (Nat.le_refl _) (by omega) ?_
      first | exact ⟨rfl, rfl, rfl⟩ | exact pB_t (by omega) | exact pB_f (by omega) | exact pC_t (by omega) | exact pC_f (by omega) | (exfalso; omega)
  · skip
    refine wq_iload_n (kk := 3) (q := 12) rfl rfl rfl ?_
    refine wq_iconst (n := -1) (q := 13) rfl rfl rfl ?_
    refine wq_icmp_eq (tgt := 35) (q := 16) rfl rfl rfl (fun c13 => ?_) (fun c13 => ?_)
    · skip
      refine wq_iload_n (kk := 3) (q := 36) rfl rfl rfl ?_
      refine wq_iload (i := 4) (q := 38) rfl rfl rfl ?_
      refine wq_icmp_ge (tgt := 45) (q := 41) rfl rfl rfl (fun c38 => ?_) (fun c38 => ?_)
      · skip
        refine wq_iconst (n := 0) (q := 46) rfl rfl rfl ?_
        refine wq_zret rfl rfl (Nat.le_refl _) (Nat.le_refl _) (by omega) ?_
        first | exact ⟨rfl, rfl, rfl⟩ | exact pB_t (by omega) | exact pB_f (by omega) | exact pC_t (by omega) | exact pC_f (by omega) | (exfalso; omega)
      · skip
        refine wq_iconst (n := 1) (q := 42) rfl rfl rfl ?_
        refine wq_goto (tgt := 46) rfl rfl ?_
        refine wq_zret rfl rfl (Nat.le_refl _) (Nat.le_refl _) (by omega) ?_
        first | exact ⟨rfl, rfl, rfl⟩ | exact pB_t (by omega) | exact pB_f (by omega) | exact pC_t (by omega) | exact pC_f (by omega) | (exfalso; omega)
    · skip
      exfalso; omega
theorem Lm.skip {N : mN} {B : Int} {e t l x : mF} {P : Int → Prop} {d g : Int} (hL : Lm N B e t l x P d) (hn : ¬ Cd N B e d g) : Lm N B e t l x (fun f => P f ∨ f = g) d := by
  refine hL.congr ⟨rfl, rfl, rfl, rfl⟩ (fun _ _ _ => ⟨rfl, rfl, rfl⟩) (fun f hc => ⟨fun z => z.elim id (fun z => ?_), Or.inl⟩)
  subst z
  exact absurd hc hn
theorem Lm.worse {N : mN} {B : Int} {e t l x : mF} {P : Int → Prop} {d g : Int} (hL : Lm N B e t l x P d) (hB : e g < B) (hP : ∀ f, P f → f ≠ g) (hk : ¬ kl (e g) (t g + tn N d g) (l g + 1) g (e d) (t d) (l d) (x d)) : Lm N B e t l x (fun f => P f ∨ f = g) d := by
  rcases hL with ⟨w1, w2, w3⟩ | ⟨w, w0, w1, w2, w3, w4, w5, w6⟩
  · exfalso
    apply hk
    unfold kl
    omega
  · refine Or.inr ⟨w, Or.inl w0, w1, w2, w3, w4, w5, fun y hy hc hne => ?_⟩
    rcases hy with hy | rfl
    · exact w6 y hy hc hne
    · have := hP w w0
      rw [w3, w4, w5, w2] at hk
      unfold kl at hk ⊢
      omega
theorem Lm.better {N : mN} {B : Int} {e t l x e' t' l' x' : mF} {P : Int → Prop} {d g : Int} (hV : NV N) (hd : dp N d) (hL : Lm N B e t l x P d) (hc : Cd N B e d g) (hk : kl (e g) (t g + tn N d g) (l g + 1) g (e d) (t d) (l d) (x d)) (u1 : e' d = e g) (u2 : t' d = t g + tn N d g) (u3 : l' d = l g + 1) (u4 : x' d = g) (ho : ∀ f, f ≠ d → e' f = e f ∧ t' f = t f ∧ l' f = l f) : Lm N B e' t' l' x' (fun f => P f ∨ f = g) d := by
  have hg := ho g (J.ne hV hd hc.2.2.1)
  refine Or.inr ⟨g, Or.inr rfl, ⟨hc.1, hc.2.1, hc.2.2.1, hc.2.2.2.1, by rw [hg.1]; exact hc.2.2.2.2⟩, u4, by rw [u1, hg.1], by rw [u2, hg.2.1], by rw [u3, hg.2.2], fun y hy hcy hne => ?_⟩
  have hyo := ho y (J.ne hV hd hcy.2.2.1)
  have hcy' : Cd N B e d y := ⟨hcy.1, hcy.2.1, hcy.2.2.1, hcy.2.2.2.1, by rw [← hyo.1]; exact hcy.2.2.2.2⟩
  rw [hg.1, hg.2.1, hg.2.2, hyo.1, hyo.2.1, hyo.2.2]
  rcases hy with hy | rfl
  · rcases hL with ⟨w1, w2, -⟩ | ⟨w, w0, w1, w2, w3, w4, w5, w6⟩
    · exact absurd hcy' (w1 y hy)
    · have base : kl (e g) (t g + tn N d g) (l g) g (e w) (t w + tn N d w) (l w) w := by
        rw [w3, w4, w5, w2] at hk
        unfold kl at hk ⊢
        omega
      by_cases gw : y = w
      · subst gw; exact base
      · exact base.trans (w6 y hy hcy' gw)
  · exact absurd rfl hne
def x_nx (h : mH) (d g t : Int) : mH := hup (hup (hup (hup h 73 d (h 73 g)) 74 d t) 75 d (h 75 g + 1)) 76 d g
/-- bounds of what is laid of one -/
def lb (h : mH) (d m : Int) : Prop := h 73 d = 9999 ∨ (0 ≤ h 73 d ∧ h 73 d ≤ 1700) ∧ 0 ≤ h 74 d ∧ h 74 d < h 75 d ∧ h 75 d ≤ m
set_option maxRecDepth 100000 in
set_option maxHeartbeats 1000000 in
theorem Mo_comesNext_ok (N : mN) (d g : Int) (h : mH) (r : mR) (hM : isM h N) (hd : dp N d) (hg : dp N g) (hb : lb h g 120) (b1 : 0 ≤ h 73 d ∧ h 73 d ≤ 9999) (b2 : 0 ≤ h 74 d ∧ h 74 d ≤ 1000) (b3 : 0 ≤ h 75 d ∧ h 75 d ≤ 1000) (hx : h 76 d ≠ g) : Meets true (rm 5) m_Mo_comesNext [vR 64, vI d, vI g] h r (fun rv h1 r1 => rv = none ∧ r1 = r ∧ (((h 73 g ≠ 9999 ∧ J N d g ∧ frm N g = dst N d) ∧ kl (h 73 g) (h 74 g + tn N d g) (h 75 g + 1) g (h 73 d) (h 74 d) (h 75 d) (h 76 d) ∧ h1 = x_nx h d g (h 74 g + tn N d g)) ∨ (¬ ((h 73 g ≠ 9999 ∧ J N d g ∧ frm N g = dst N d) ∧ kl (h 73 g) (h 74 g + tn N d g) (h 75 g + 1) g (h 73 d) (h 74 d) (h 75 d) (h 76 d)) ∧ h1 = h))) := by
  have hn := hM.1.1
  obtain ⟨d0, d1⟩ := id hd
  obtain ⟨g0, g1⟩ := id hg
  have ht := tn_b N d g
  have hb' : h 73 g ≠ 9999 → (0 ≤ h 73 g ∧ h 73 g ≤ 1700) ∧ 0 ≤ h 74 g ∧ h 74 g < h 75 g ∧ h 75 g ≤ 120 := fun z => hb.resolve_left z
  refine ⟨ok_Mo_comesNext, Nat.le_of_ble_eq_true rfl, ?_⟩
  refine wq_aload_n (kk := 0) (q := 1) rfl rfl rfl ?_
  refine wq_getF (q := 4) f_Mo_39 rfl rfl (Nat.le_of_ble_eq_true rfl) rfl rfl rfl ?_
  refine wq_iload_n (kk := 2) (q := 5) rfl rfl rfl ?_
  refine wq_iald (q := 6) rfl (Or.inl ⟨rfl, Nat.le_of_ble_eq_true rfl⟩) rfl rfl (by first | omega | (have := hb' (by omega); omega) | (simp [hup]; have := hb' (by omega); omega)) (by first | omega | (have := hb' (by omega); omega) | (simp [hup]; have := hb' (by omega); omega)) ?_
  refine wq_sipush (n := 9999) (q := 9) rfl rfl rfl ?_
  refine wq_icmp_eq (tgt := 21) (q := 12) rfl rfl rfl (fun c9 => ?_) (fun c9 => ?_)
  · skip
    refine wq_vret rfl rfl (Nat.le_refl _) (Nat.le_refl _) ⟨rfl, rfl, Or.inr ⟨fun z => ?_, rfl⟩⟩
    first | exact z.1.1 c9 | exact c18 z.1.2
  · skip
    refine wq_aload_n (kk := 0) (q := 13) rfl rfl rfl ?_
    refine wq_iload_n (kk := 1) (q := 14) rfl rfl rfl ?_
    refine wq_iload_n (kk := 2) (q := 15) rfl rfl rfl ?_
    refine wq_callV (q := 18) (m' := m_Mo_canFollow) (R' := rm 4) (As := [_, _]) rfl rfl l_Mo_285 vm_Mo_canFollow rfl rfl rfl (Or.inl ⟨rfl, Nat.le_of_ble_eq_true rfl⟩) (Nat.le_of_ble_eq_true rfl) (Nat.le_of_ble_eq_true rfl) (Nat.le_refl _) (Nat.le_refl _) (Nat.le_of_ble_eq_true rfl) (Mo_canFollow_ok N d g h r hM hd hg) rfl ?_
    rintro rv h r ⟨rfl, rfl, rfl⟩ -
    refine wq_cif_ne (tgt := 22) (q := 21) rfl rfl rfl (fun c18 => ?_) (fun c18 => ?_)
    · skip
      refine wq_aload_n (kk := 0) (q := 23) rfl rfl rfl ?_
      refine wq_getF (q := 26) f_Mo_42 rfl rfl (Nat.le_of_ble_eq_true rfl) rfl rfl rfl ?_
      refine wq_iload_n (kk := 2) (q := 27) rfl rfl rfl ?_
      refine wq_iald (q := 28) rfl (Or.inl ⟨rfl, Nat.le_of_ble_eq_true rfl⟩) rfl rfl (by first | omega | (have := hb' (by omega); omega) | (simp [hup]; have := hb' (by omega); omega)) (by first | omega | (have := hb' (by omega); omega) | (simp [hup]; have := hb' (by omega); omega)) ?_
      refine wq_aload_n (kk := 0) (q := 29) rfl rfl rfl ?_
      refine wq_iload_n (kk := 1) (q := 30) rfl rfl rfl ?_
      refine wq_iload_n (kk := 2) (q := 31) rfl rfl rfl ?_
      refine wq_callV (q := 34) (m' := m_Mo_turns) (R' := rm 2) (As := [_, _]) rfl rfl l_Mo_289 vm_Mo_turns rfl rfl rfl (Or.inl ⟨rfl, Nat.le_of_ble_eq_true rfl⟩) (Nat.le_of_ble_eq_true rfl) (Nat.le_of_ble_eq_true rfl) (Nat.le_refl _) (Nat.le_refl _) (Nat.le_of_ble_eq_true rfl) (Mo_turns_ok N d g h r hM hd hg) rfl ?_
      rintro rv h r ⟨rfl, rfl, rfl⟩ -
      have bb := hb' c9
      refine wq_iadd (q := 35) rfl rfl (by first | omega | (have := hb' (by omega); omega) | (simp [hup]; have := hb' (by omega); omega)) (by first | omega | (have := hb' (by omega); omega) | (simp [hup]; have := hb' (by omega); omega)) ?_
      refine wq_istore_n (kk := 3) (q := 36) rfl rfl (Nat.le_of_ble_eq_true rfl) rfl ?_
      refine wq_aload_n (kk := 0) (q := 37) rfl rfl rfl ?_
      refine wq_getF (q := 40) f_Mo_39 rfl rfl (Nat.le_of_ble_eq_true rfl) rfl rfl rfl ?_
      refine wq_iload_n (kk := 1) (q := 41) rfl rfl rfl ?_
      refine wq_iald (q := 42) rfl (Or.inl ⟨rfl, Nat.le_of_ble_eq_true rfl⟩) rfl rfl (by first | omega | (have := hb' (by omega); omega) | (simp [hup]; have := hb' (by omega); omega)) (by first | omega | (have := hb' (by omega); omega) | (simp [hup]; have := hb' (by omega); omega)) ?_
      refine wq_aload_n (kk := 0) (q := 43) rfl rfl rfl ?_
      refine wq_getF (q := 46) f_Mo_39 rfl rfl (Nat.le_of_ble_eq_true rfl) rfl rfl rfl ?_
      refine wq_iload_n (kk := 2) (q := 47) rfl rfl rfl ?_
      refine wq_iald (q := 48) rfl (Or.inl ⟨rfl, Nat.le_of_ble_eq_true rfl⟩) rfl rfl (by first | omega | (have := hb' (by omega); omega) | (simp [hup]; have := hb' (by omega); omega)) (by first | omega | (have := hb' (by omega); omega) | (simp [hup]; have := hb' (by omega); omega)) ?_
      refine wq_isub (q := 49) rfl rfl (by first | omega | (have := hb' (by omega); omega) | (simp [hup]; have := hb' (by omega); omega)) (by first | omega | (have := hb' (by omega); omega) | (simp [hup]; have := hb' (by omega); omega)) ?_
      refine wq_istore (i := 4) (q := 51) rfl rfl (Nat.le_of_ble_eq_true rfl) rfl ?_
      refine wq_iload (i := 4) (q := 53) rfl rfl rfl ?_
      refine wq_if_eq (tgt := 61) (q := 56) rfl rfl rfl (fun c53 => ?_) (fun c53 => ?_)
      · skip
        refine wq_aload_n (kk := 0) (q := 62) rfl rfl rfl ?_
        refine wq_getF (q := 65) f_Mo_42 rfl rfl (Nat.le_of_ble_eq_true rfl) rfl rfl rfl ?_
        refine wq_iload_n (kk := 1) (q := 66) rfl rfl rfl ?_
        refine wq_iald (q := 67) rfl (Or.inl ⟨rfl, Nat.le_of_ble_eq_true rfl⟩) rfl rfl (by first | omega | (have := hb' (by omega); omega) | (simp [hup]; have := hb' (by omega); omega)) (by first | omega | (have := hb' (by omega); omega) | (simp [hup]; have := hb' (by omega); omega)) ?_
        refine wq_iload_n (kk := 3) (q := 68) rfl rfl rfl ?_
        refine wq_isub (q := 69) rfl rfl (by first | omega | (have := hb' (by omega); omega) | (simp [hup]; have := hb' (by omega); omega)) (by first | omega | (have := hb' (by omega); omega) | (simp [hup]; have := hb' (by omega); omega)) ?_
        refine wq_istore (i := 4) (q := 71) rfl rfl (Nat.le_of_ble_eq_true rfl) rfl ?_
        refine wq_iload (i := 4) (q := 73) rfl rfl rfl ?_
        refine wq_if_eq (tgt := 81) (q := 76) rfl rfl rfl (fun c73 => ?_) (fun c73 => ?_)
        · skip
          refine wq_aload_n (kk := 0) (q := 82) rfl rfl rfl ?_
          refine wq_getF (q := 85) f_Mo_45 rfl rfl (Nat.le_of_ble_eq_true rfl) rfl rfl rfl ?_
          refine wq_iload_n (kk := 1) (q := 86) rfl rfl rfl ?_
          refine wq_iald (q := 87) rfl (Or.inl ⟨rfl, Nat.le_of_ble_eq_true rfl⟩) rfl rfl (by first | omega | (have := hb' (by omega); omega) | (simp [hup]; have := hb' (by omega); omega)) (by first | omega | (have := hb' (by omega); omega) | (simp [hup]; have := hb' (by omega); omega)) ?_
          refine wq_aload_n (kk := 0) (q := 88) rfl rfl rfl ?_
          refine wq_getF (q := 91) f_Mo_45 rfl rfl (Nat.le_of_ble_eq_true rfl) rfl rfl rfl ?_
          refine wq_iload_n (kk := 2) (q := 92) rfl rfl rfl ?_
          refine wq_iald (q := 93) rfl (Or.inl ⟨rfl, Nat.le_of_ble_eq_true rfl⟩) rfl rfl (by first | omega | (have := hb' (by omega); omega) | (simp [hup]; have := hb' (by omega); omega)) (by first | omega | (have := hb' (by omega); omega) | (simp [hup]; have := hb' (by omega); omega)) ?_
          refine wq_isub (q := 94) rfl rfl (by first | omega | (have := hb' (by omega); omega) | (simp [hup]; have := hb' (by omega); omega)) (by first | omega | (have := hb' (by omega); omega) | (simp [hup]; have := hb' (by omega); omega)) ?_
          refine wq_iconst (n := 1) (q := 95) rfl rfl rfl ?_
          refine wq_isub (q := 96) rfl rfl (by first | omega | (have := hb' (by omega); omega) | (simp [hup]; have := hb' (by omega); omega)) (by first | omega | (have := hb' (by omega); omega) | (simp [hup]; have := hb' (by omega); omega)) ?_
          refine wq_istore (i := 4) (q := 98) rfl rfl (Nat.le_of_ble_eq_true rfl) rfl ?_
          refine wq_iload (i := 4) (q := 100) rfl rfl rfl ?_
          refine wq_if_gt (tgt := 122) (q := 103) rfl rfl rfl (fun c100 => ?_) (fun c100 => ?_)
          · skip
            refine wq_aload_n (kk := 0) (q := 123) rfl rfl rfl ?_
            refine wq_getF (q := 126) f_Mo_39 rfl rfl (Nat.le_of_ble_eq_true rfl) rfl rfl rfl ?_
            refine wq_iload_n (kk := 1) (q := 127) rfl rfl rfl ?_
            refine wq_aload_n (kk := 0) (q := 128) rfl rfl rfl ?_
            refine wq_getF (q := 131) f_Mo_39 rfl rfl (Nat.le_of_ble_eq_true rfl) rfl rfl rfl ?_
            refine wq_iload_n (kk := 2) (q := 132) rfl rfl rfl ?_
            refine wq_iald (q := 133) rfl (Or.inl ⟨rfl, Nat.le_of_ble_eq_true rfl⟩) rfl rfl (by first | omega | (have := hb' (by omega); omega) | (simp [hup]; have := hb' (by omega); omega)) (by first | omega | (have := hb' (by omega); omega) | (simp [hup]; have := hb' (by omega); omega)) ?_
            refine wq_iast (q := 134) rfl (Or.inl ⟨rfl, Nat.le_of_ble_eq_true rfl⟩) rfl rfl (by first | omega | (have := hb' (by omega); omega) | (simp [hup]; have := hb' (by omega); omega)) (by first | omega | (have := hb' (by omega); omega) | (simp [hup]; have := hb' (by omega); omega)) ?_
            refine wq_aload_n (kk := 0) (q := 135) rfl rfl rfl ?_
            refine wq_getF (q := 138) f_Mo_42 rfl rfl (Nat.le_of_ble_eq_true rfl) rfl rfl rfl ?_
            refine wq_iload_n (kk := 1) (q := 139) rfl rfl rfl ?_
            refine wq_iload_n (kk := 3) (q := 140) rfl rfl rfl ?_
            refine wq_iast (q := 141) rfl (Or.inl ⟨rfl, Nat.le_of_ble_eq_true rfl⟩) rfl rfl (by first | omega | (have := hb' (by omega); omega) | (simp [hup]; have := hb' (by omega); omega)) (by first | omega | (have := hb' (by omega); omega) | (simp [hup]; have := hb' (by omega); omega)) ?_
            refine wq_aload_n (kk := 0) (q := 142) rfl rfl rfl ?_
            refine wq_getF (q := 145) f_Mo_45 rfl rfl (Nat.le_of_ble_eq_true rfl) rfl rfl rfl ?_
            refine wq_iload_n (kk := 1) (q := 146) rfl rfl rfl ?_
            refine wq_aload_n (kk := 0) (q := 147) rfl rfl rfl ?_
            refine wq_getF (q := 150) f_Mo_45 rfl rfl (Nat.le_of_ble_eq_true rfl) rfl rfl rfl ?_
            refine wq_iload_n (kk := 2) (q := 151) rfl rfl rfl ?_
            refine wq_iald (q := 152) rfl (Or.inl ⟨rfl, Nat.le_of_ble_eq_true rfl⟩) rfl rfl (by first | omega | (have := hb' (by omega); omega) | (simp [hup]; have := hb' (by omega); omega)) (by first | omega | (have := hb' (by omega); omega) | (simp [hup]; have := hb' (by omega); omega)) ?_
            refine wq_iconst (n := 1) (q := 153) rfl rfl rfl ?_
            refine wq_iadd (q := 154) rfl rfl (by first | omega | (have := hb' (by omega); omega) | (simp [hup]; have := hb' (by omega); omega)) (by first | omega | (have := hb' (by omega); omega) | (simp [hup]; have := hb' (by omega); omega)) ?_
            rw [show ∀ A B C, hup (hup h 73 d A) 74 d B 75 g + C = h 75 g + C from fun A B C => by rw [hup_i (by decide), hup_i (by decide)]]
            refine wq_iast (q := 155) rfl (Or.inl ⟨rfl, Nat.le_of_ble_eq_true rfl⟩) rfl rfl (by first | omega | (have := hb' (by omega); omega) | (simp [hup]; have := hb' (by omega); omega)) (by first | omega | (have := hb' (by omega); omega) | (simp [hup]; have := hb' (by omega); omega)) ?_
            refine wq_aload_n (kk := 0) (q := 156) rfl rfl rfl ?_
            refine wq_getF (q := 159) f_Mo_48 rfl rfl (Nat.le_of_ble_eq_true rfl) rfl rfl rfl ?_
            refine wq_iload_n (kk := 1) (q := 160) rfl rfl rfl ?_
            refine wq_iload_n (kk := 2) (q := 161) rfl rfl rfl ?_
            refine wq_iast (q := 162) rfl (Or.inl ⟨rfl, Nat.le_of_ble_eq_true rfl⟩) rfl rfl (by first | omega | (have := hb' (by omega); omega) | (simp [hup]; have := hb' (by omega); omega)) (by first | omega | (have := hb' (by omega); omega) | (simp [hup]; have := hb' (by omega); omega)) ?_
            first
            | exact wq_vret rfl rfl (Nat.le_refl _) (Nat.le_refl _) ⟨rfl, rfl, Or.inl ⟨⟨c9, c18⟩, by unfold kl; omega, rfl⟩⟩
            | exact wq_vret rfl rfl (Nat.le_refl _) (Nat.le_refl _) ⟨rfl, rfl, Or.inr ⟨fun z => by have z2 := z.2; unfold kl at z2; omega, rfl⟩⟩
          · skip
            refine wq_iload (i := 4) (q := 105) rfl rfl rfl ?_
            refine wq_if_ne (tgt := 162) (q := 108) rfl rfl rfl (fun c105 => ?_) (fun c105 => ?_)
            · skip
              first
              | exact wq_vret rfl rfl (Nat.le_refl _) (Nat.le_refl _) ⟨rfl, rfl, Or.inl ⟨⟨c9, c18⟩, by unfold kl; omega, rfl⟩⟩
              | exact wq_vret rfl rfl (Nat.le_refl _) (Nat.le_refl _) ⟨rfl, rfl, Or.inr ⟨fun z => by have z2 := z.2; unfold kl at z2; omega, rfl⟩⟩
            · skip
              refine wq_aload_n (kk := 0) (q := 109) rfl rfl rfl ?_
              refine wq_iload_n (kk := 2) (q := 110) rfl rfl rfl ?_
              refine wq_aload_n (kk := 0) (q := 111) rfl rfl rfl ?_
              refine wq_getF (q := 114) f_Mo_48 rfl rfl (Nat.le_of_ble_eq_true rfl) rfl rfl rfl ?_
              refine wq_iload_n (kk := 1) (q := 115) rfl rfl rfl ?_
              refine wq_iald (q := 116) rfl (Or.inl ⟨rfl, Nat.le_of_ble_eq_true rfl⟩) rfl rfl (by first | omega | (have := hb' (by omega); omega) | (simp [hup]; have := hb' (by omega); omega)) (by first | omega | (have := hb' (by omega); omega) | (simp [hup]; have := hb' (by omega); omega)) ?_
              refine wq_callV (q := 119) (m' := m_Mo_isLessRow) (R' := rm 1) (As := [_, _]) rfl rfl l_Mo_292 vm_Mo_isLessRow rfl rfl rfl (Or.inl ⟨rfl, Nat.le_of_ble_eq_true rfl⟩) (Nat.le_of_ble_eq_true rfl) (Nat.le_of_ble_eq_true rfl) (Nat.le_refl _) (Nat.le_refl _) (Nat.le_of_ble_eq_true rfl) (Mo_isLessRow_ok _ _ (fun z => hx z.symm) h r) rfl ?_
              rintro rv h r ⟨rfl, rfl, rfl⟩ -
              refine wq_cif_eq (tgt := 162) (q := 122) rfl rfl rfl (fun c119 => ?_) (fun c119 => ?_)
              · skip
                first
                | exact wq_vret rfl rfl (Nat.le_refl _) (Nat.le_refl _) ⟨rfl, rfl, Or.inl ⟨⟨c9, c18⟩, by unfold kl; omega, rfl⟩⟩
                | exact wq_vret rfl rfl (Nat.le_refl _) (Nat.le_refl _) ⟨rfl, rfl, Or.inr ⟨fun z => by have z2 := z.2; unfold kl at z2; omega, rfl⟩⟩
              · skip
                refine wq_aload_n (kk := 0) (q := 123) rfl rfl rfl ?_
                refine wq_getF (q := 126) f_Mo_39 rfl rfl (Nat.le_of_ble_eq_true rfl) rfl rfl rfl ?_
                refine wq_iload_n (kk := 1) (q := 127) rfl rfl rfl ?_
                refine wq_aload_n (kk := 0) (q := 128) rfl rfl rfl ?_
                refine wq_getF (q := 131) f_Mo_39 rfl rfl (Nat.le_of_ble_eq_true rfl) rfl rfl rfl ?_
                refine wq_iload_n (kk := 2) (q := 132) rfl rfl rfl ?_
                refine wq_iald (q := 133) rfl (Or.inl ⟨rfl, Nat.le_of_ble_eq_true rfl⟩) rfl rfl (by first | omega | (have := hb' (by omega); omega) | (simp [hup]; have := hb' (by omega); omega)) (by first | omega | (have := hb' (by omega); omega) | (simp [hup]; have := hb' (by omega); omega)) ?_
                refine wq_iast (q := 134) rfl (Or.inl ⟨rfl, Nat.le_of_ble_eq_true rfl⟩) rfl rfl (by first | omega | (have := hb' (by omega); omega) | (simp [hup]; have := hb' (by omega); omega)) (by first | omega | (have := hb' (by omega); omega) | (simp [hup]; have := hb' (by omega); omega)) ?_
                refine wq_aload_n (kk := 0) (q := 135) rfl rfl rfl ?_
                refine wq_getF (q := 138) f_Mo_42 rfl rfl (Nat.le_of_ble_eq_true rfl) rfl rfl rfl ?_
                refine wq_iload_n (kk := 1) (q := 139) rfl rfl rfl ?_
                refine wq_iload_n (kk := 3) (q := 140) rfl rfl rfl ?_
                refine wq_iast (q := 141) rfl (Or.inl ⟨rfl, Nat.le_of_ble_eq_true rfl⟩) rfl rfl (by first | omega | (have := hb' (by omega); omega) | (simp [hup]; have := hb' (by omega); omega)) (by first | omega | (have := hb' (by omega); omega) | (simp [hup]; have := hb' (by omega); omega)) ?_
                refine wq_aload_n (kk := 0) (q := 142) rfl rfl rfl ?_
                refine wq_getF (q := 145) f_Mo_45 rfl rfl (Nat.le_of_ble_eq_true rfl) rfl rfl rfl ?_
                refine wq_iload_n (kk := 1) (q := 146) rfl rfl rfl ?_
                refine wq_aload_n (kk := 0) (q := 147) rfl rfl rfl ?_
                refine wq_getF (q := 150) f_Mo_45 rfl rfl (Nat.le_of_ble_eq_true rfl) rfl rfl rfl ?_
                refine wq_iload_n (kk := 2) (q := 151) rfl rfl rfl ?_
                refine wq_iald (q := 152) rfl (Or.inl ⟨rfl, Nat.le_of_ble_eq_true rfl⟩) rfl rfl (by first | omega | (have := hb' (by omega); omega) | (simp [hup]; have := hb' (by omega); omega)) (by first | omega | (have := hb' (by omega); omega) | (simp [hup]; have := hb' (by omega); omega)) ?_
                refine wq_iconst (n := 1) (q := 153) rfl rfl rfl ?_
                refine wq_iadd (q := 154) rfl rfl (by first | omega | (have := hb' (by omega); omega) | (simp [hup]; have := hb' (by omega); omega)) (by first | omega | (have := hb' (by omega); omega) | (simp [hup]; have := hb' (by omega); omega)) ?_
                rw [show ∀ A B C, hup (hup h 73 d A) 74 d B 75 g + C = h 75 g + C from fun A B C => by rw [hup_i (by decide), hup_i (by decide)]]
                refine wq_iast (q := 155) rfl (Or.inl ⟨rfl, Nat.le_of_ble_eq_true rfl⟩) rfl rfl (by first | omega | (have := hb' (by omega); omega) | (simp [hup]; have := hb' (by omega); omega)) (by first | omega | (have := hb' (by omega); omega) | (simp [hup]; have := hb' (by omega); omega)) ?_
                refine wq_aload_n (kk := 0) (q := 156) rfl rfl rfl ?_
                refine wq_getF (q := 159) f_Mo_48 rfl rfl (Nat.le_of_ble_eq_true rfl) rfl rfl rfl ?_
                refine wq_iload_n (kk := 1) (q := 160) rfl rfl rfl ?_
                refine wq_iload_n (kk := 2) (q := 161) rfl rfl rfl ?_
                refine wq_iast (q := 162) rfl (Or.inl ⟨rfl, Nat.le_of_ble_eq_true rfl⟩) rfl rfl (by first | omega | (have := hb' (by omega); omega) | (simp [hup]; have := hb' (by omega); omega)) (by first | omega | (have := hb' (by omega); omega) | (simp [hup]; have := hb' (by omega); omega)) ?_
                first
                | exact wq_vret rfl rfl (Nat.le_refl _) (Nat.le_refl _) ⟨rfl, rfl, Or.inl ⟨⟨c9, c18⟩, by unfold kl; omega, rfl⟩⟩
                | exact wq_vret rfl rfl (Nat.le_refl _) (Nat.le_refl _) ⟨rfl, rfl, Or.inr ⟨fun z => by have z2 := z.2; unfold kl at z2; omega, rfl⟩⟩
        · skip
          refine wq_iload (i := 4) (q := 78) rfl rfl rfl ?_
          refine wq_goto (tgt := 96) rfl rfl ?_
          refine wq_istore (i := 4) (q := 98) rfl rfl (Nat.le_of_ble_eq_true rfl) rfl ?_
          refine wq_iload (i := 4) (q := 100) rfl rfl rfl ?_
          refine wq_if_gt (tgt := 122) (q := 103) rfl rfl rfl (fun c100 => ?_) (fun c100 => ?_)
          · skip
            refine wq_aload_n (kk := 0) (q := 123) rfl rfl rfl ?_
            refine wq_getF (q := 126) f_Mo_39 rfl rfl (Nat.le_of_ble_eq_true rfl) rfl rfl rfl ?_
            refine wq_iload_n (kk := 1) (q := 127) rfl rfl rfl ?_
            refine wq_aload_n (kk := 0) (q := 128) rfl rfl rfl ?_
            refine wq_getF (q := 131) f_Mo_39 rfl rfl (Nat.le_of_ble_eq_true rfl) rfl rfl rfl ?_
            refine wq_iload_n (kk := 2) (q := 132) rfl rfl rfl ?_
            refine wq_iald (q := 133) rfl (Or.inl ⟨rfl, Nat.le_of_ble_eq_true rfl⟩) rfl rfl (by first | omega | (have := hb' (by omega); omega) | (simp [hup]; have := hb' (by omega); omega)) (by first | omega | (have := hb' (by omega); omega) | (simp [hup]; have := hb' (by omega); omega)) ?_
            refine wq_iast (q := 134) rfl (Or.inl ⟨rfl, Nat.le_of_ble_eq_true rfl⟩) rfl rfl (by first | omega | (have := hb' (by omega); omega) | (simp [hup]; have := hb' (by omega); omega)) (by first | omega | (have := hb' (by omega); omega) | (simp [hup]; have := hb' (by omega); omega)) ?_
            refine wq_aload_n (kk := 0) (q := 135) rfl rfl rfl ?_
            refine wq_getF (q := 138) f_Mo_42 rfl rfl (Nat.le_of_ble_eq_true rfl) rfl rfl rfl ?_
            refine wq_iload_n (kk := 1) (q := 139) rfl rfl rfl ?_
            refine wq_iload_n (kk := 3) (q := 140) rfl rfl rfl ?_
            refine wq_iast (q := 141) rfl (Or.inl ⟨rfl, Nat.le_of_ble_eq_true rfl⟩) rfl rfl (by first | omega | (have := hb' (by omega); omega) | (simp [hup]; have := hb' (by omega); omega)) (by first | omega | (have := hb' (by omega); omega) | (simp [hup]; have := hb' (by omega); omega)) ?_
            refine wq_aload_n (kk := 0) (q := 142) rfl rfl rfl ?_
            refine wq_getF (q := 145) f_Mo_45 rfl rfl (Nat.le_of_ble_eq_true rfl) rfl rfl rfl ?_
            refine wq_iload_n (kk := 1) (q := 146) rfl rfl rfl ?_
            refine wq_aload_n (kk := 0) (q := 147) rfl rfl rfl ?_
            refine wq_getF (q := 150) f_Mo_45 rfl rfl (Nat.le_of_ble_eq_true rfl) rfl rfl rfl ?_
            refine wq_iload_n (kk := 2) (q := 151) rfl rfl rfl ?_
            refine wq_iald (q := 152) rfl (Or.inl ⟨rfl, Nat.le_of_ble_eq_true rfl⟩) rfl rfl (by first | omega | (have := hb' (by omega); omega) | (simp [hup]; have := hb' (by omega); omega)) (by first | omega | (have := hb' (by omega); omega) | (simp [hup]; have := hb' (by omega); omega)) ?_
            refine wq_iconst (n := 1) (q := 153) rfl rfl rfl ?_
            refine wq_iadd (q := 154) rfl rfl (by first | omega | (have := hb' (by omega); omega) | (simp [hup]; have := hb' (by omega); omega)) (by first | omega | (have := hb' (by omega); omega) | (simp [hup]; have := hb' (by omega); omega)) ?_
            rw [show ∀ A B C, hup (hup h 73 d A) 74 d B 75 g + C = h 75 g + C from fun A B C => by rw [hup_i (by decide), hup_i (by decide)]]
            refine wq_iast (q := 155) rfl (Or.inl ⟨rfl, Nat.le_of_ble_eq_true rfl⟩) rfl rfl (by first | omega | (have := hb' (by omega); omega) | (simp [hup]; have := hb' (by omega); omega)) (by first | omega | (have := hb' (by omega); omega) | (simp [hup]; have := hb' (by omega); omega)) ?_
            refine wq_aload_n (kk := 0) (q := 156) rfl rfl rfl ?_
            refine wq_getF (q := 159) f_Mo_48 rfl rfl (Nat.le_of_ble_eq_true rfl) rfl rfl rfl ?_
            refine wq_iload_n (kk := 1) (q := 160) rfl rfl rfl ?_
            refine wq_iload_n (kk := 2) (q := 161) rfl rfl rfl ?_
            refine wq_iast (q := 162) rfl (Or.inl ⟨rfl, Nat.le_of_ble_eq_true rfl⟩) rfl rfl (by first | omega | (have := hb' (by omega); omega) | (simp [hup]; have := hb' (by omega); omega)) (by first | omega | (have := hb' (by omega); omega) | (simp [hup]; have := hb' (by omega); omega)) ?_
            first
            | exact wq_vret rfl rfl (Nat.le_refl _) (Nat.le_refl _) ⟨rfl, rfl, Or.inl ⟨⟨c9, c18⟩, by unfold kl; omega, rfl⟩⟩
            | exact wq_vret rfl rfl (Nat.le_refl _) (Nat.le_refl _) ⟨rfl, rfl, Or.inr ⟨fun z => by have z2 := z.2; unfold kl at z2; omega, rfl⟩⟩
          · skip
            refine wq_iload (i := 4) (q := 105) rfl rfl rfl ?_
            refine wq_if_ne (tgt := 162) (q := 108) rfl rfl rfl (fun c105 => ?_) (fun c105 => ?_)
            · skip
              first
              | exact wq_vret rfl rfl (Nat.le_refl _) (Nat.le_refl _) ⟨rfl, rfl, Or.inl ⟨⟨c9, c18⟩, by unfold kl; omega, rfl⟩⟩
              | exact wq_vret rfl rfl (Nat.le_refl _) (Nat.le_refl _) ⟨rfl, rfl, Or.inr ⟨fun z => by have z2 := z.2; unfold kl at z2; omega, rfl⟩⟩
            · skip
              refine wq_aload_n (kk := 0) (q := 109) rfl rfl rfl ?_
              refine wq_iload_n (kk := 2) (q := 110) rfl rfl rfl ?_
              refine wq_aload_n (kk := 0) (q := 111) rfl rfl rfl ?_
              refine wq_getF (q := 114) f_Mo_48 rfl rfl (Nat.le_of_ble_eq_true rfl) rfl rfl rfl ?_
              refine wq_iload_n (kk := 1) (q := 115) rfl rfl rfl ?_
              refine wq_iald (q := 116) rfl (Or.inl ⟨rfl, Nat.le_of_ble_eq_true rfl⟩) rfl rfl (by first | omega | (have := hb' (by omega); omega) | (simp [hup]; have := hb' (by omega); omega)) (by first | omega | (have := hb' (by omega); omega) | (simp [hup]; have := hb' (by omega); omega)) ?_
              refine wq_callV (q := 119) (m' := m_Mo_isLessRow) (R' := rm 1) (As := [_, _]) rfl rfl l_Mo_292 vm_Mo_isLessRow rfl rfl rfl (Or.inl ⟨rfl, Nat.le_of_ble_eq_true rfl⟩) (Nat.le_of_ble_eq_true rfl) (Nat.le_of_ble_eq_true rfl) (Nat.le_refl _) (Nat.le_refl _) (Nat.le_of_ble_eq_true rfl) (Mo_isLessRow_ok _ _ (fun z => hx z.symm) h r) rfl ?_
              rintro rv h r ⟨rfl, rfl, rfl⟩ -
              refine wq_cif_eq (tgt := 162) (q := 122) rfl rfl rfl (fun c119 => ?_) (fun c119 => ?_)
              · skip
                first
                | exact wq_vret rfl rfl (Nat.le_refl _) (Nat.le_refl _) ⟨rfl, rfl, Or.inl ⟨⟨c9, c18⟩, by unfold kl; omega, rfl⟩⟩
                | exact wq_vret rfl rfl (Nat.le_refl _) (Nat.le_refl _) ⟨rfl, rfl, Or.inr ⟨fun z => by have z2 := z.2; unfold kl at z2; omega, rfl⟩⟩
              · skip
                refine wq_aload_n (kk := 0) (q := 123) rfl rfl rfl ?_
                refine wq_getF (q := 126) f_Mo_39 rfl rfl (Nat.le_of_ble_eq_true rfl) rfl rfl rfl ?_
                refine wq_iload_n (kk := 1) (q := 127) rfl rfl rfl ?_
                refine wq_aload_n (kk := 0) (q := 128) rfl rfl rfl ?_
                refine wq_getF (q := 131) f_Mo_39 rfl rfl (Nat.le_of_ble_eq_true rfl) rfl rfl rfl ?_
                refine wq_iload_n (kk := 2) (q := 132) rfl rfl rfl ?_
                refine wq_iald (q := 133) rfl (Or.inl ⟨rfl, Nat.le_of_ble_eq_true rfl⟩) rfl rfl (by first | omega | (have := hb' (by omega); omega) | (simp [hup]; have := hb' (by omega); omega)) (by first | omega | (have := hb' (by omega); omega) | (simp [hup]; have := hb' (by omega); omega)) ?_
                refine wq_iast (q := 134) rfl (Or.inl ⟨rfl, Nat.le_of_ble_eq_true rfl⟩) rfl rfl (by first | omega | (have := hb' (by omega); omega) | (simp [hup]; have := hb' (by omega); omega)) (by first | omega | (have := hb' (by omega); omega) | (simp [hup]; have := hb' (by omega); omega)) ?_
                refine wq_aload_n (kk := 0) (q := 135) rfl rfl rfl ?_
                refine wq_getF (q := 138) f_Mo_42 rfl rfl (Nat.le_of_ble_eq_true rfl) rfl rfl rfl ?_
                refine wq_iload_n (kk := 1) (q := 139) rfl rfl rfl ?_
                refine wq_iload_n (kk := 3) (q := 140) rfl rfl rfl ?_
                refine wq_iast (q := 141) rfl (Or.inl ⟨rfl, Nat.le_of_ble_eq_true rfl⟩) rfl rfl (by first | omega | (have := hb' (by omega); omega) | (simp [hup]; have := hb' (by omega); omega)) (by first | omega | (have := hb' (by omega); omega) | (simp [hup]; have := hb' (by omega); omega)) ?_
                refine wq_aload_n (kk := 0) (q := 142) rfl rfl rfl ?_
                refine wq_getF (q := 145) f_Mo_45 rfl rfl (Nat.le_of_ble_eq_true rfl) rfl rfl rfl ?_
                refine wq_iload_n (kk := 1) (q := 146) rfl rfl rfl ?_
                refine wq_aload_n (kk := 0) (q := 147) rfl rfl rfl ?_
                refine wq_getF (q := 150) f_Mo_45 rfl rfl (Nat.le_of_ble_eq_true rfl) rfl rfl rfl ?_
                refine wq_iload_n (kk := 2) (q := 151) rfl rfl rfl ?_
                refine wq_iald (q := 152) rfl (Or.inl ⟨rfl, Nat.le_of_ble_eq_true rfl⟩) rfl rfl (by first | omega | (have := hb' (by omega); omega) | (simp [hup]; have := hb' (by omega); omega)) (by first | omega | (have := hb' (by omega); omega) | (simp [hup]; have := hb' (by omega); omega)) ?_
                refine wq_iconst (n := 1) (q := 153) rfl rfl rfl ?_
                refine wq_iadd (q := 154) rfl rfl (by first | omega | (have := hb' (by omega); omega) | (simp [hup]; have := hb' (by omega); omega)) (by first | omega | (have := hb' (by omega); omega) | (simp [hup]; have := hb' (by omega); omega)) ?_
                rw [show ∀ A B C, hup (hup h 73 d A) 74 d B 75 g + C = h 75 g + C from fun A B C => by rw [hup_i (by decide), hup_i (by decide)]]
                refine wq_iast (q := 155) rfl (Or.inl ⟨rfl, Nat.le_of_ble_eq_true rfl⟩) rfl rfl (by first | omega | (have := hb' (by omega); omega) | (simp [hup]; have := hb' (by omega); omega)) (by first | omega | (have := hb' (by omega); omega) | (simp [hup]; have := hb' (by omega); omega)) ?_
                refine wq_aload_n (kk := 0) (q := 156) rfl rfl rfl ?_
                refine wq_getF (q := 159) f_Mo_48 rfl rfl (Nat.le_of_ble_eq_true rfl) rfl rfl rfl ?_
                refine wq_iload_n (kk := 1) (q := 160) rfl rfl rfl ?_
                refine wq_iload_n (kk := 2) (q := 161) rfl rfl rfl ?_
                refine wq_iast (q := 162) rfl (Or.inl ⟨rfl, Nat.le_of_ble_eq_true rfl⟩) rfl rfl (by first | omega | (have := hb' (by omega); omega) | (simp [hup]; have := hb' (by omega); omega)) (by first | omega | (have := hb' (by omega); omega) | (simp [hup]; have := hb' (by omega); omega)) ?_
                first
                | exact wq_vret rfl rfl (Nat.le_refl _) (Nat.le_refl _) ⟨rfl, rfl, Or.inl ⟨⟨c9, c18⟩, by unfold kl; omega, rfl⟩⟩
                | exact wq_vret rfl rfl (Nat.le_refl _) (Nat.le_refl _) ⟨rfl, rfl, Or.inr ⟨fun z => by have z2 := z.2; unfold kl at z2; omega, rfl⟩⟩
      · skip
        refine wq_iload (i := 4) (q := 58) rfl rfl rfl ?_
        refine wq_goto (tgt := 69) rfl rfl ?_
        refine wq_istore (i := 4) (q := 71) rfl rfl (Nat.le_of_ble_eq_true rfl) rfl ?_
        refine wq_iload (i := 4) (q := 73) rfl rfl rfl ?_
        refine wq_if_eq (tgt := 81) (q := 76) rfl rfl rfl (fun c73 => ?_) (fun c73 => ?_)
        · skip
          refine wq_aload_n (kk := 0) (q := 82) rfl rfl rfl ?_
          refine wq_getF (q := 85) f_Mo_45 rfl rfl (Nat.le_of_ble_eq_true rfl) rfl rfl rfl ?_
          refine wq_iload_n (kk := 1) (q := 86) rfl rfl rfl ?_
          refine wq_iald (q := 87) rfl (Or.inl ⟨rfl, Nat.le_of_ble_eq_true rfl⟩) rfl rfl (by first | omega | (have := hb' (by omega); omega) | (simp [hup]; have := hb' (by omega); omega)) (by first | omega | (have := hb' (by omega); omega) | (simp [hup]; have := hb' (by omega); omega)) ?_
          refine wq_aload_n (kk := 0) (q := 88) rfl rfl rfl ?_
          refine wq_getF (q := 91) f_Mo_45 rfl rfl (Nat.le_of_ble_eq_true rfl) rfl rfl rfl ?_
          refine wq_iload_n (kk := 2) (q := 92) rfl rfl rfl ?_
          refine wq_iald (q := 93) rfl (Or.inl ⟨rfl, Nat.le_of_ble_eq_true rfl⟩) rfl rfl (by first | omega | (have := hb' (by omega); omega) | (simp [hup]; have := hb' (by omega); omega)) (by first | omega | (have := hb' (by omega); omega) | (simp [hup]; have := hb' (by omega); omega)) ?_
          refine wq_isub (q := 94) rfl rfl (by first | omega | (have := hb' (by omega); omega) | (simp [hup]; have := hb' (by omega); omega)) (by first | omega | (have := hb' (by omega); omega) | (simp [hup]; have := hb' (by omega); omega)) ?_
          refine wq_iconst (n := 1) (q := 95) rfl rfl rfl ?_
          refine wq_isub (q := 96) rfl rfl (by first | omega | (have := hb' (by omega); omega) | (simp [hup]; have := hb' (by omega); omega)) (by first | omega | (have := hb' (by omega); omega) | (simp [hup]; have := hb' (by omega); omega)) ?_
          refine wq_istore (i := 4) (q := 98) rfl rfl (Nat.le_of_ble_eq_true rfl) rfl ?_
          refine wq_iload (i := 4) (q := 100) rfl rfl rfl ?_
          refine wq_if_gt (tgt := 122) (q := 103) rfl rfl rfl (fun c100 => ?_) (fun c100 => ?_)
          · skip
            refine wq_aload_n (kk := 0) (q := 123) rfl rfl rfl ?_
            refine wq_getF (q := 126) f_Mo_39 rfl rfl (Nat.le_of_ble_eq_true rfl) rfl rfl rfl ?_
            refine wq_iload_n (kk := 1) (q := 127) rfl rfl rfl ?_
            refine wq_aload_n (kk := 0) (q := 128) rfl rfl rfl ?_
            refine wq_getF (q := 131) f_Mo_39 rfl rfl (Nat.le_of_ble_eq_true rfl) rfl rfl rfl ?_
            refine wq_iload_n (kk := 2) (q := 132) rfl rfl rfl ?_
            refine wq_iald (q := 133) rfl (Or.inl ⟨rfl, Nat.le_of_ble_eq_true rfl⟩) rfl rfl (by first | omega | (have := hb' (by omega); omega) | (simp [hup]; have := hb' (by omega); omega)) (by first | omega | (have := hb' (by omega); omega) | (simp [hup]; have := hb' (by omega); omega)) ?_
            refine wq_iast (q := 134) rfl (Or.inl ⟨rfl, Nat.le_of_ble_eq_true rfl⟩) rfl rfl (by first | omega | (have := hb' (by omega); omega) | (simp [hup]; have := hb' (by omega); omega)) (by first | omega | (have := hb' (by omega); omega) | (simp [hup]; have := hb' (by omega); omega)) ?_
            refine wq_aload_n (kk := 0) (q := 135) rfl rfl rfl ?_
            refine wq_getF (q := 138) f_Mo_42 rfl rfl (Nat.le_of_ble_eq_true rfl) rfl rfl rfl ?_
            refine wq_iload_n (kk := 1) (q := 139) rfl rfl rfl ?_
            refine wq_iload_n (kk := 3) (q := 140) rfl rfl rfl ?_
            refine wq_iast (q := 141) rfl (Or.inl ⟨rfl, Nat.le_of_ble_eq_true rfl⟩) rfl rfl (by first | omega | (have := hb' (by omega); omega) | (simp [hup]; have := hb' (by omega); omega)) (by first | omega | (have := hb' (by omega); omega) | (simp [hup]; have := hb' (by omega); omega)) ?_
            refine wq_aload_n (kk := 0) (q := 142) rfl rfl rfl ?_
            refine wq_getF (q := 145) f_Mo_45 rfl rfl (Nat.le_of_ble_eq_true rfl) rfl rfl rfl ?_
            refine wq_iload_n (kk := 1) (q := 146) rfl rfl rfl ?_
            refine wq_aload_n (kk := 0) (q := 147) rfl rfl rfl ?_
            refine wq_getF (q := 150) f_Mo_45 rfl rfl (Nat.le_of_ble_eq_true rfl) rfl rfl rfl ?_
            refine wq_iload_n (kk := 2) (q := 151) rfl rfl rfl ?_
            refine wq_iald (q := 152) rfl (Or.inl ⟨rfl, Nat.le_of_ble_eq_true rfl⟩) rfl rfl (by first | omega | (have := hb' (by omega); omega) | (simp [hup]; have := hb' (by omega); omega)) (by first | omega | (have := hb' (by omega); omega) | (simp [hup]; have := hb' (by omega); omega)) ?_
            refine wq_iconst (n := 1) (q := 153) rfl rfl rfl ?_
            refine wq_iadd (q := 154) rfl rfl (by first | omega | (have := hb' (by omega); omega) | (simp [hup]; have := hb' (by omega); omega)) (by first | omega | (have := hb' (by omega); omega) | (simp [hup]; have := hb' (by omega); omega)) ?_
            rw [show ∀ A B C, hup (hup h 73 d A) 74 d B 75 g + C = h 75 g + C from fun A B C => by rw [hup_i (by decide), hup_i (by decide)]]
            refine wq_iast (q := 155) rfl (Or.inl ⟨rfl, Nat.le_of_ble_eq_true rfl⟩) rfl rfl (by first | omega | (have := hb' (by omega); omega) | (simp [hup]; have := hb' (by omega); omega)) (by first | omega | (have := hb' (by omega); omega) | (simp [hup]; have := hb' (by omega); omega)) ?_
            refine wq_aload_n (kk := 0) (q := 156) rfl rfl rfl ?_
            refine wq_getF (q := 159) f_Mo_48 rfl rfl (Nat.le_of_ble_eq_true rfl) rfl rfl rfl ?_
            refine wq_iload_n (kk := 1) (q := 160) rfl rfl rfl ?_
            refine wq_iload_n (kk := 2) (q := 161) rfl rfl rfl ?_
            refine wq_iast (q := 162) rfl (Or.inl ⟨rfl, Nat.le_of_ble_eq_true rfl⟩) rfl rfl (by first | omega | (have := hb' (by omega); omega) | (simp [hup]; have := hb' (by omega); omega)) (by first | omega | (have := hb' (by omega); omega) | (simp [hup]; have := hb' (by omega); omega)) ?_
            first
            | exact wq_vret rfl rfl (Nat.le_refl _) (Nat.le_refl _) ⟨rfl, rfl, Or.inl ⟨⟨c9, c18⟩, by unfold kl; omega, rfl⟩⟩
            | exact wq_vret rfl rfl (Nat.le_refl _) (Nat.le_refl _) ⟨rfl, rfl, Or.inr ⟨fun z => by have z2 := z.2; unfold kl at z2; omega, rfl⟩⟩
          · skip
            refine wq_iload (i := 4) (q := 105) rfl rfl rfl ?_
            refine wq_if_ne (tgt := 162) (q := 108) rfl rfl rfl (fun c105 => ?_) (fun c105 => ?_)
            · skip
              first
              | exact wq_vret rfl rfl (Nat.le_refl _) (Nat.le_refl _) ⟨rfl, rfl, Or.inl ⟨⟨c9, c18⟩, by unfold kl; omega, rfl⟩⟩
              | exact wq_vret rfl rfl (Nat.le_refl _) (Nat.le_refl _) ⟨rfl, rfl, Or.inr ⟨fun z => by have z2 := z.2; unfold kl at z2; omega, rfl⟩⟩
            · skip
              refine wq_aload_n (kk := 0) (q := 109) rfl rfl rfl ?_
              refine wq_iload_n (kk := 2) (q := 110) rfl rfl rfl ?_
              refine wq_aload_n (kk := 0) (q := 111) rfl rfl rfl ?_
              refine wq_getF (q := 114) f_Mo_48 rfl rfl (Nat.le_of_ble_eq_true rfl) rfl rfl rfl ?_
              refine wq_iload_n (kk := 1) (q := 115) rfl rfl rfl ?_
              refine wq_iald (q := 116) rfl (Or.inl ⟨rfl, Nat.le_of_ble_eq_true rfl⟩) rfl rfl (by first | omega | (have := hb' (by omega); omega) | (simp [hup]; have := hb' (by omega); omega)) (by first | omega | (have := hb' (by omega); omega) | (simp [hup]; have := hb' (by omega); omega)) ?_
              refine wq_callV (q := 119) (m' := m_Mo_isLessRow) (R' := rm 1) (As := [_, _]) rfl rfl l_Mo_292 vm_Mo_isLessRow rfl rfl rfl (Or.inl ⟨rfl, Nat.le_of_ble_eq_true rfl⟩) (Nat.le_of_ble_eq_true rfl) (Nat.le_of_ble_eq_true rfl) (Nat.le_refl _) (Nat.le_refl _) (Nat.le_of_ble_eq_true rfl) (Mo_isLessRow_ok _ _ (fun z => hx z.symm) h r) rfl ?_
              rintro rv h r ⟨rfl, rfl, rfl⟩ -
              refine wq_cif_eq (tgt := 162) (q := 122) rfl rfl rfl (fun c119 => ?_) (fun c119 => ?_)
              · skip
                first
                | exact wq_vret rfl rfl (Nat.le_refl _) (Nat.le_refl _) ⟨rfl, rfl, Or.inl ⟨⟨c9, c18⟩, by unfold kl; omega, rfl⟩⟩
                | exact wq_vret rfl rfl (Nat.le_refl _) (Nat.le_refl _) ⟨rfl, rfl, Or.inr ⟨fun z => by have z2 := z.2; unfold kl at z2; omega, rfl⟩⟩
              · skip
                refine wq_aload_n (kk := 0) (q := 123) rfl rfl rfl ?_
                refine wq_getF (q := 126) f_Mo_39 rfl rfl (Nat.le_of_ble_eq_true rfl) rfl rfl rfl ?_
                refine wq_iload_n (kk := 1) (q := 127) rfl rfl rfl ?_
                refine wq_aload_n (kk := 0) (q := 128) rfl rfl rfl ?_
                refine wq_getF (q := 131) f_Mo_39 rfl rfl (Nat.le_of_ble_eq_true rfl) rfl rfl rfl ?_
                refine wq_iload_n (kk := 2) (q := 132) rfl rfl rfl ?_
                refine wq_iald (q := 133) rfl (Or.inl ⟨rfl, Nat.le_of_ble_eq_true rfl⟩) rfl rfl (by first | omega | (have := hb' (by omega); omega) | (simp [hup]; have := hb' (by omega); omega)) (by first | omega | (have := hb' (by omega); omega) | (simp [hup]; have := hb' (by omega); omega)) ?_
                refine wq_iast (q := 134) rfl (Or.inl ⟨rfl, Nat.le_of_ble_eq_true rfl⟩) rfl rfl (by first | omega | (have := hb' (by omega); omega) | (simp [hup]; have := hb' (by omega); omega)) (by first | omega | (have := hb' (by omega); omega) | (simp [hup]; have := hb' (by omega); omega)) ?_
                refine wq_aload_n (kk := 0) (q := 135) rfl rfl rfl ?_
                refine wq_getF (q := 138) f_Mo_42 rfl rfl (Nat.le_of_ble_eq_true rfl) rfl rfl rfl ?_
                refine wq_iload_n (kk := 1) (q := 139) rfl rfl rfl ?_
                refine wq_iload_n (kk := 3) (q := 140) rfl rfl rfl ?_
                refine wq_iast (q := 141) rfl (Or.inl ⟨rfl, Nat.le_of_ble_eq_true rfl⟩) rfl rfl (by first | omega | (have := hb' (by omega); omega) | (simp [hup]; have := hb' (by omega); omega)) (by first | omega | (have := hb' (by omega); omega) | (simp [hup]; have := hb' (by omega); omega)) ?_
                refine wq_aload_n (kk := 0) (q := 142) rfl rfl rfl ?_
                refine wq_getF (q := 145) f_Mo_45 rfl rfl (Nat.le_of_ble_eq_true rfl) rfl rfl rfl ?_
                refine wq_iload_n (kk := 1) (q := 146) rfl rfl rfl ?_
                refine wq_aload_n (kk := 0) (q := 147) rfl rfl rfl ?_
                refine wq_getF (q := 150) f_Mo_45 rfl rfl (Nat.le_of_ble_eq_true rfl) rfl rfl rfl ?_
                refine wq_iload_n (kk := 2) (q := 151) rfl rfl rfl ?_
                refine wq_iald (q := 152) rfl (Or.inl ⟨rfl, Nat.le_of_ble_eq_true rfl⟩) rfl rfl (by first | omega | (have := hb' (by omega); omega) | (simp [hup]; have := hb' (by omega); omega)) (by first | omega | (have := hb' (by omega); omega) | (simp [hup]; have := hb' (by omega); omega)) ?_
                refine wq_iconst (n := 1) (q := 153) rfl rfl rfl ?_
                refine wq_iadd (q := 154) rfl rfl (by first | omega | (have := hb' (by omega); omega) | (simp [hup]; have := hb' (by omega); omega)) (by first | omega | (have := hb' (by omega); omega) | (simp [hup]; have := hb' (by omega); omega)) ?_
                rw [show ∀ A B C, hup (hup h 73 d A) 74 d B 75 g + C = h 75 g + C from fun A B C => by rw [hup_i (by decide), hup_i (by decide)]]
                refine wq_iast (q := 155) rfl (Or.inl ⟨rfl, Nat.le_of_ble_eq_true rfl⟩) rfl rfl (by first | omega | (have := hb' (by omega); omega) | (simp [hup]; have := hb' (by omega); omega)) (by first | omega | (have := hb' (by omega); omega) | (simp [hup]; have := hb' (by omega); omega)) ?_
                refine wq_aload_n (kk := 0) (q := 156) rfl rfl rfl ?_
                refine wq_getF (q := 159) f_Mo_48 rfl rfl (Nat.le_of_ble_eq_true rfl) rfl rfl rfl ?_
                refine wq_iload_n (kk := 1) (q := 160) rfl rfl rfl ?_
                refine wq_iload_n (kk := 2) (q := 161) rfl rfl rfl ?_
                refine wq_iast (q := 162) rfl (Or.inl ⟨rfl, Nat.le_of_ble_eq_true rfl⟩) rfl rfl (by first | omega | (have := hb' (by omega); omega) | (simp [hup]; have := hb' (by omega); omega)) (by first | omega | (have := hb' (by omega); omega) | (simp [hup]; have := hb' (by omega); omega)) ?_
                first
                | exact wq_vret rfl rfl (Nat.le_refl _) (Nat.le_refl _) ⟨rfl, rfl, Or.inl ⟨⟨c9, c18⟩, by unfold kl; omega, rfl⟩⟩
                | exact wq_vret rfl rfl (Nat.le_refl _) (Nat.le_refl _) ⟨rfl, rfl, Or.inr ⟨fun z => by have z2 := z.2; unfold kl at z2; omega, rfl⟩⟩
        · skip
          refine wq_iload (i := 4) (q := 78) rfl rfl rfl ?_
          refine wq_goto (tgt := 96) rfl rfl ?_
          refine wq_istore (i := 4) (q := 98) rfl rfl (Nat.le_of_ble_eq_true rfl) rfl ?_
          refine wq_iload (i := 4) (q := 100) rfl rfl rfl ?_
          refine wq_if_gt (tgt := 122) (q := 103) rfl rfl rfl (fun c100 => ?_) (fun c100 => ?_)
          · skip
            refine wq_aload_n (kk := 0) (q := 123) rfl rfl rfl ?_
            refine wq_getF (q := 126) f_Mo_39 rfl rfl (Nat.le_of_ble_eq_true rfl) rfl rfl rfl ?_
            refine wq_iload_n (kk := 1) (q := 127) rfl rfl rfl ?_
            refine wq_aload_n (kk := 0) (q := 128) rfl rfl rfl ?_
            refine wq_getF (q := 131) f_Mo_39 rfl rfl (Nat.le_of_ble_eq_true rfl) rfl rfl rfl ?_
            refine wq_iload_n (kk := 2) (q := 132) rfl rfl rfl ?_
            refine wq_iald (q := 133) rfl (Or.inl ⟨rfl, Nat.le_of_ble_eq_true rfl⟩) rfl rfl (by first | omega | (have := hb' (by omega); omega) | (simp [hup]; have := hb' (by omega); omega)) (by first | omega | (have := hb' (by omega); omega) | (simp [hup]; have := hb' (by omega); omega)) ?_
            refine wq_iast (q := 134) rfl (Or.inl ⟨rfl, Nat.le_of_ble_eq_true rfl⟩) rfl rfl (by first | omega | (have := hb' (by omega); omega) | (simp [hup]; have := hb' (by omega); omega)) (by first | omega | (have := hb' (by omega); omega) | (simp [hup]; have := hb' (by omega); omega)) ?_
            refine wq_aload_n (kk := 0) (q := 135) rfl rfl rfl ?_
            refine wq_getF (q := 138) f_Mo_42 rfl rfl (Nat.le_of_ble_eq_true rfl) rfl rfl rfl ?_
            refine wq_iload_n (kk := 1) (q := 139) rfl rfl rfl ?_
            refine wq_iload_n (kk := 3) (q := 140) rfl rfl rfl ?_
            refine wq_iast (q := 141) rfl (Or.inl ⟨rfl, Nat.le_of_ble_eq_true rfl⟩) rfl rfl (by first | omega | (have := hb' (by omega); omega) | (simp [hup]; have := hb' (by omega); omega)) (by first | omega | (have := hb' (by omega); omega) | (simp [hup]; have := hb' (by omega); omega)) ?_
            refine wq_aload_n (kk := 0) (q := 142) rfl rfl rfl ?_
            refine wq_getF (q := 145) f_Mo_45 rfl rfl (Nat.le_of_ble_eq_true rfl) rfl rfl rfl ?_
            refine wq_iload_n (kk := 1) (q := 146) rfl rfl rfl ?_
            refine wq_aload_n (kk := 0) (q := 147) rfl rfl rfl ?_
            refine wq_getF (q := 150) f_Mo_45 rfl rfl (Nat.le_of_ble_eq_true rfl) rfl rfl rfl ?_
            refine wq_iload_n (kk := 2) (q := 151) rfl rfl rfl ?_
            refine wq_iald (q := 152) rfl (Or.inl ⟨rfl, Nat.le_of_ble_eq_true rfl⟩) rfl rfl (by first | omega | (have := hb' (by omega); omega) | (simp [hup]; have := hb' (by omega); omega)) (by first | omega | (have := hb' (by omega); omega) | (simp [hup]; have := hb' (by omega); omega)) ?_
            refine wq_iconst (n := 1) (q := 153) rfl rfl rfl ?_
            refine wq_iadd (q := 154) rfl rfl (by first | omega | (have := hb' (by omega); omega) | (simp [hup]; have := hb' (by omega); omega)) (by first | omega | (have := hb' (by omega); omega) | (simp [hup]; have := hb' (by omega); omega)) ?_
            rw [show ∀ A B C, hup (hup h 73 d A) 74 d B 75 g + C = h 75 g + C from fun A B C => by rw [hup_i (by decide), hup_i (by decide)]]
            refine wq_iast (q := 155) rfl (Or.inl ⟨rfl, Nat.le_of_ble_eq_true rfl⟩) rfl rfl (by first | omega | (have := hb' (by omega); omega) | (simp [hup]; have := hb' (by omega); omega)) (by first | omega | (have := hb' (by omega); omega) | (simp [hup]; have := hb' (by omega); omega)) ?_
            refine wq_aload_n (kk := 0) (q := 156) rfl rfl rfl ?_
            refine wq_getF (q := 159) f_Mo_48 rfl rfl (Nat.le_of_ble_eq_true rfl) rfl rfl rfl ?_
            refine wq_iload_n (kk := 1) (q := 160) rfl rfl rfl ?_
            refine wq_iload_n (kk := 2) (q := 161) rfl rfl rfl ?_
            refine wq_iast (q := 162) rfl (Or.inl ⟨rfl, Nat.le_of_ble_eq_true rfl⟩) rfl rfl (by first | omega | (have := hb' (by omega); omega) | (simp [hup]; have := hb' (by omega); omega)) (by first | omega | (have := hb' (by omega); omega) | (simp [hup]; have := hb' (by omega); omega)) ?_
            first
            | exact wq_vret rfl rfl (Nat.le_refl _) (Nat.le_refl _) ⟨rfl, rfl, Or.inl ⟨⟨c9, c18⟩, by unfold kl; omega, rfl⟩⟩
            | exact wq_vret rfl rfl (Nat.le_refl _) (Nat.le_refl _) ⟨rfl, rfl, Or.inr ⟨fun z => by have z2 := z.2; unfold kl at z2; omega, rfl⟩⟩
          · skip
            refine wq_iload (i := 4) (q := 105) rfl rfl rfl ?_
            refine wq_if_ne (tgt := 162) (q := 108) rfl rfl rfl (fun c105 => ?_) (fun c105 => ?_)
            · skip
              first
              | exact wq_vret rfl rfl (Nat.le_refl _) (Nat.le_refl _) ⟨rfl, rfl, Or.inl ⟨⟨c9, c18⟩, by unfold kl; omega, rfl⟩⟩
              | exact wq_vret rfl rfl (Nat.le_refl _) (Nat.le_refl _) ⟨rfl, rfl, Or.inr ⟨fun z => by have z2 := z.2; unfold kl at z2; omega, rfl⟩⟩
            · skip
              refine wq_aload_n (kk := 0) (q := 109) rfl rfl rfl ?_
              refine wq_iload_n (kk := 2) (q := 110) rfl rfl rfl ?_
              refine wq_aload_n (kk := 0) (q := 111) rfl rfl rfl ?_
              refine wq_getF (q := 114) f_Mo_48 rfl rfl (Nat.le_of_ble_eq_true rfl) rfl rfl rfl ?_
              refine wq_iload_n (kk := 1) (q := 115) rfl rfl rfl ?_
              refine wq_iald (q := 116) rfl (Or.inl ⟨rfl, Nat.le_of_ble_eq_true rfl⟩) rfl rfl (by first | omega | (have := hb' (by omega); omega) | (simp [hup]; have := hb' (by omega); omega)) (by first | omega | (have := hb' (by omega); omega) | (simp [hup]; have := hb' (by omega); omega)) ?_
              refine wq_callV (q := 119) (m' := m_Mo_isLessRow) (R' := rm 1) (As := [_, _]) rfl rfl l_Mo_292 vm_Mo_isLessRow rfl rfl rfl (Or.inl ⟨rfl, Nat.le_of_ble_eq_true rfl⟩) (Nat.le_of_ble_eq_true rfl) (Nat.le_of_ble_eq_true rfl) (Nat.le_refl _) (Nat.le_refl _) (Nat.le_of_ble_eq_true rfl) (Mo_isLessRow_ok _ _ (fun z => hx z.symm) h r) rfl ?_
              rintro rv h r ⟨rfl, rfl, rfl⟩ -
              refine wq_cif_eq (tgt := 162) (q := 122) rfl rfl rfl (fun c119 => ?_) (fun c119 => ?_)
              · skip
                first
                | exact wq_vret rfl rfl (Nat.le_refl _) (Nat.le_refl _) ⟨rfl, rfl, Or.inl ⟨⟨c9, c18⟩, by unfold kl; omega, rfl⟩⟩
                | exact wq_vret rfl rfl (Nat.le_refl _) (Nat.le_refl _) ⟨rfl, rfl, Or.inr ⟨fun z => by have z2 := z.2; unfold kl at z2; omega, rfl⟩⟩
              · skip
                refine wq_aload_n (kk := 0) (q := 123) rfl rfl rfl ?_
                refine wq_getF (q := 126) f_Mo_39 rfl rfl (Nat.le_of_ble_eq_true rfl) rfl rfl rfl ?_
                refine wq_iload_n (kk := 1) (q := 127) rfl rfl rfl ?_
                refine wq_aload_n (kk := 0) (q := 128) rfl rfl rfl ?_
                refine wq_getF (q := 131) f_Mo_39 rfl rfl (Nat.le_of_ble_eq_true rfl) rfl rfl rfl ?_
                refine wq_iload_n (kk := 2) (q := 132) rfl rfl rfl ?_
                refine wq_iald (q := 133) rfl (Or.inl ⟨rfl, Nat.le_of_ble_eq_true rfl⟩) rfl rfl (by first | omega | (have := hb' (by omega); omega) | (simp [hup]; have := hb' (by omega); omega)) (by first | omega | (have := hb' (by omega); omega) | (simp [hup]; have := hb' (by omega); omega)) ?_
                refine wq_iast (q := 134) rfl (Or.inl ⟨rfl, Nat.le_of_ble_eq_true rfl⟩) rfl rfl (by first | omega | (have := hb' (by omega); omega) | (simp [hup]; have := hb' (by omega); omega)) (by first | omega | (have := hb' (by omega); omega) | (simp [hup]; have := hb' (by omega); omega)) ?_
                refine wq_aload_n (kk := 0) (q := 135) rfl rfl rfl ?_
                refine wq_getF (q := 138) f_Mo_42 rfl rfl (Nat.le_of_ble_eq_true rfl) rfl rfl rfl ?_
                refine wq_iload_n (kk := 1) (q := 139) rfl rfl rfl ?_
                refine wq_iload_n (kk := 3) (q := 140) rfl rfl rfl ?_
                refine wq_iast (q := 141) rfl (Or.inl ⟨rfl, Nat.le_of_ble_eq_true rfl⟩) rfl rfl (by first | omega | (have := hb' (by omega); omega) | (simp [hup]; have := hb' (by omega); omega)) (by first | omega | (have := hb' (by omega); omega) | (simp [hup]; have := hb' (by omega); omega)) ?_
                refine wq_aload_n (kk := 0) (q := 142) rfl rfl rfl ?_
                refine wq_getF (q := 145) f_Mo_45 rfl rfl (Nat.le_of_ble_eq_true rfl) rfl rfl rfl ?_
                refine wq_iload_n (kk := 1) (q := 146) rfl rfl rfl ?_
                refine wq_aload_n (kk := 0) (q := 147) rfl rfl rfl ?_
                refine wq_getF (q := 150) f_Mo_45 rfl rfl (Nat.le_of_ble_eq_true rfl) rfl rfl rfl ?_
                refine wq_iload_n (kk := 2) (q := 151) rfl rfl rfl ?_
                refine wq_iald (q := 152) rfl (Or.inl ⟨rfl, Nat.le_of_ble_eq_true rfl⟩) rfl rfl (by first | omega | (have := hb' (by omega); omega) | (simp [hup]; have := hb' (by omega); omega)) (by first | omega | (have := hb' (by omega); omega) | (simp [hup]; have := hb' (by omega); omega)) ?_
                refine wq_iconst (n := 1) (q := 153) rfl rfl rfl ?_
                refine wq_iadd (q := 154) rfl rfl (by first | omega | (have := hb' (by omega); omega) | (simp [hup]; have := hb' (by omega); omega)) (by first | omega | (have := hb' (by omega); omega) | (simp [hup]; have := hb' (by omega); omega)) ?_
                rw [show ∀ A B C, hup (hup h 73 d A) 74 d B 75 g + C = h 75 g + C from fun A B C => by rw [hup_i (by decide), hup_i (by decide)]]
                refine wq_iast (q := 155) rfl (Or.inl ⟨rfl, Nat.le_of_ble_eq_true rfl⟩) rfl rfl (by first | omega | (have := hb' (by omega); omega) | (simp [hup]; have := hb' (by omega); omega)) (by first | omega | (have := hb' (by omega); omega) | (simp [hup]; have := hb' (by omega); omega)) ?_
                refine wq_aload_n (kk := 0) (q := 156) rfl rfl rfl ?_
                refine wq_getF (q := 159) f_Mo_48 rfl rfl (Nat.le_of_ble_eq_true rfl) rfl rfl rfl ?_
                refine wq_iload_n (kk := 1) (q := 160) rfl rfl rfl ?_
                refine wq_iload_n (kk := 2) (q := 161) rfl rfl rfl ?_
                refine wq_iast (q := 162) rfl (Or.inl ⟨rfl, Nat.le_of_ble_eq_true rfl⟩) rfl rfl (by first | omega | (have := hb' (by omega); omega) | (simp [hup]; have := hb' (by omega); omega)) (by first | omega | (have := hb' (by omega); omega) | (simp [hup]; have := hb' (by omega); omega)) ?_
                first
                | exact wq_vret rfl rfl (Nat.le_refl _) (Nat.le_refl _) ⟨rfl, rfl, Or.inl ⟨⟨c9, c18⟩, by unfold kl; omega, rfl⟩⟩
                | exact wq_vret rfl rfl (Nat.le_refl _) (Nat.le_refl _) ⟨rfl, rfl, Or.inr ⟨fun z => by have z2 := z.2; unfold kl at z2; omega, rfl⟩⟩
    · skip
      refine wq_vret rfl rfl (Nat.le_refl _) (Nat.le_refl _) ⟨rfl, rfl, Or.inr ⟨fun z => ?_, rfl⟩⟩
      first | exact z.1.1 c9 | exact c18 z.1.2
abbrev laC : List Nat := [73, 74, 75, 76]
/-- only what stands at d has changed -/
def sl (h h1 : mH) (d : Int) : Prop := fr laC h h1 ∧ ∀ a i, i ≠ d → h1 a i = h a i
theorem sl.rf {h : mH} {d : Int} : sl h h d := ⟨fr.rf, fun _ _ _ => rfl⟩
theorem sl.up {h h1 : mH} {d v : Int} {a : Nat} (hs : sl h h1 d) (ha : a ∈ laC) : sl h (hup h1 a d v) d := ⟨hs.1.up ha, fun b i hi => by rw [hup_j hi]; exact hs.2 b i hi⟩
theorem Sr.jlt {N : mN} (hV : NV N) {o : mF} {m : Int} (h : Sr N o m (nN N)) {i : Int} (i0 : 0 ≤ i) (i1 : i < m) {f : Int} (hf : dp N f) (hr : rn N f = 1) (hJ : J N (o i) f) : ∃ j, 0 ≤ j ∧ j < i ∧ o j = f := by
  obtain ⟨j, j0, j1, rfl⟩ := h.2.2.2 f hf.1 hf.2 hr
  refine ⟨j, j0, ?_, rfl⟩
  have hlt := J.lt hV (h.2.1 i i0 i1).1 hJ
  rcases (show j < i ∨ j = i ∨ i < j by omega) with z | z | z
  · exact z
  · rw [z] at hlt; omega
  · have := (h.2.2.1 i j i0 z j1).1; omega
set_option maxRecDepth 100000 in
set_option maxHeartbeats 2000000 in
theorem Mo_goalI (N : mN) (b i : Int) (X : mX) (h0 : mH) (r : mR) (hM : isM h0 N) (o : mF) (m : Int) (hS : Sr N o m (nN N)) (i0 : 0 ≤ i) (i1 : i < m) (e77 : h0 77 = o) (hb : dst N (o i) ≠ b) (hl : ∀ j, 0 ≤ j → j < i → lb h0 (o j) 120) (K : ∀ (h2 : mH) (k : Int), sl h0 h2 (o i) → LabAt N b 9999 (h2 73) (h2 74) (h2 75) (h2 76) (o i) → WP (true, rm 6) m_Mo_laysGoal X 117 [some (vR 64), some (vI b), some (vI i), some (vI (o i)), some (vI 0), some (vI k)] [] h2 r (0, 0)) : ∀ (M : Nat) (k : Int) (h1 : mH), (i - k).toNat = M → 0 ≤ k → k ≤ i → sl h0 h1 (o i) → Lm N 9999 (h1 73) (h1 74) (h1 75) (h1 76) (fun f => ∃ q, 0 ≤ q ∧ q < k ∧ o q = f) (o i) → ((0 ≤ h1 73 (o i) ∧ h1 73 (o i) ≤ 9999) ∧ (0 ≤ h1 74 (o i) ∧ h1 74 (o i) ≤ 1000) ∧ 0 ≤ h1 75 (o i) ∧ h1 75 (o i) ≤ 1000) → WP (true, rm 6) m_Mo_laysGoal X 88 [some (vR 64), some (vI b), some (vI i), some (vI (o i)), some (vI 0), some (vI k)] [] h1 r (0, 0) := by
  intro M
  induction M using Nat.strongRecOn with
  | ind M ih =>
    intro k h1 hN k0 k1 hs hL hbd
    have hV := hM.1
    have hn := hV.1
    have hM1 := isM_f hM hs.1 (by decide)
    have e77' : h1 77 k = o k := by rw [hs.1 77 (by decide), e77]
    have hm := hS.1
    have hd := (hS.2.1 i i0 i1).1
    have hne : k < i → o k ≠ o i := fun z => (hS.2.2.1 k i k0 z i1).2
    refine wq_iload (i := 5) (q := 90) rfl rfl rfl ?_
    refine wq_iload_n (kk := 2) (q := 91) rfl rfl rfl ?_
    refine wq_icmp_ge (tgt := 117) (q := 94) rfl rfl rfl (fun c91 => ?_) (fun c91 => ?_)
    · skip
      first
      | (refine K h1 k hs ⟨fun y => absurd y hb, fun _ => hL.congr ⟨rfl, rfl, rfl, rfl⟩ (fun _ _ _ => ⟨rfl, rfl, rfl⟩) (fun f hc => ⟨fun _ => ?_, fun _ => trivial⟩)⟩
         obtain ⟨q, q0, q1, q2⟩ := hS.jlt hV i0 i1 hc.1 hc.2.1 hc.2.2.1
         exact ⟨q, q0, by omega, q2⟩)
      | (exfalso; omega)
    · skip
      refine wq_iload (i := 4) (q := 96) rfl rfl rfl ?_
      refine wq_if_ne (tgt := 117) (q := 99) rfl rfl rfl (fun c96 => ?_) (fun c96 => ?_)
      · skip
        first
        | (refine K h1 k hs ⟨fun y => absurd y hb, fun _ => hL.congr ⟨rfl, rfl, rfl, rfl⟩ (fun _ _ _ => ⟨rfl, rfl, rfl⟩) (fun f hc => ⟨fun _ => ?_, fun _ => trivial⟩)⟩
           obtain ⟨q, q0, q1, q2⟩ := hS.jlt hV i0 i1 hc.1 hc.2.1 hc.2.2.1
           exact ⟨q, q0, by omega, q2⟩)
        | (exfalso; omega)
      · skip
        refine wq_aload_n (kk := 0) (q := 100) rfl rfl rfl ?_
        refine wq_iload_n (kk := 3) (q := 101) rfl rfl rfl ?_
        refine wq_aload_n (kk := 0) (q := 102) rfl rfl rfl ?_
        refine wq_getF (q := 105) f_Mo_51 rfl rfl (Nat.le_of_ble_eq_true rfl) rfl rfl rfl ?_
        refine wq_iload (i := 5) (q := 107) rfl rfl rfl ?_
        refine wq_iald (q := 108) rfl (Or.inl ⟨rfl, Nat.le_of_ble_eq_true rfl⟩) rfl rfl (by first | omega | (simp [hup]; omega)) (by first | omega | (simp [hup]; omega)) ?_
        rw [e77']
        have hk := hS.2.1 k k0 (by omega)
        have nk := hne (by omega)
        have lk : lb h1 (o k) 120 := by
          have := hl k k0 (by omega)
          unfold lb at this ⊢
          rw [hs.2 73 _ nk, hs.2 74 _ nk, hs.2 75 _ nk]
          exact this
        have hPne : ∀ f, (∃ q, 0 ≤ q ∧ q < k ∧ o q = f) → f ≠ o k := fun f ⟨q, q0, q1, q2⟩ => by
          rw [← q2]; exact (hS.2.2.1 q k q0 q1 (by omega)).2
        have hx : h1 76 (o i) ≠ o k := by
          rcases hL with ⟨-, -, w3⟩ | ⟨w, w0, -, w2, -⟩
          · rw [w3]; have := hk.1.1; omega
          · rw [w2]; exact hPne w w0
        have hPeq : ∀ {e t l x : mF}, Lm N 9999 e t l x (fun f => (∃ q, 0 ≤ q ∧ q < k ∧ o q = f) ∨ f = o k) (o i) → Lm N 9999 e t l x (fun f => ∃ q, 0 ≤ q ∧ q < k + 1 ∧ o q = f) (o i) := fun {e t l x} hz => by
          refine hz.congr ⟨rfl, rfl, rfl, rfl⟩ (fun _ _ _ => ⟨rfl, rfl, rfl⟩) (fun f hc => Iff.intro (fun z => ?_) (fun z => ?_))
          · obtain ⟨q, q0, q1, q2⟩ := z
            by_cases eq : q = k
            · subst eq; exact Or.inr q2.symm
            · exact Or.inl ⟨q, q0, by omega, q2⟩
          · rcases z with ⟨q, q0, q1, q2⟩ | z
            · exact ⟨q, q0, by omega, q2⟩
            · exact ⟨k, k0, by omega, z.symm⟩
        refine wq_callV (q := 111) (m' := m_Mo_comesNext) (R' := rm 5) (As := [_, _]) rfl rfl l_Mo_281 vm_Mo_comesNext rfl rfl rfl (Or.inl ⟨rfl, Nat.le_of_ble_eq_true rfl⟩) (Nat.le_of_ble_eq_true rfl) (Nat.le_of_ble_eq_true rfl) (Nat.le_refl _) (Nat.le_refl _) (Nat.le_of_ble_eq_true rfl) (Mo_comesNext_ok N (o i) (o k) h1 r hM1 hd hk.1 lk hbd.1 hbd.2.1 hbd.2.2 hx) rfl ?_
        rintro rv h2 r ⟨rfl, rfl, hc⟩ -
        refine wq_iinc (i := 5) (n := 1) (q := 114) rfl rfl rfl (Nat.le_of_ble_eq_true rfl) rfl (by first | omega | (simp [hup]; omega)) (by first | omega | (simp [hup]; omega)) ?_
        refine wq_goto (tgt := 88) rfl rfl ?_
        have ht := tn_b N (o i) (o k)
        rcases hc with ⟨⟨z1, z2⟩, z3, rfl⟩ | ⟨z, e2⟩
        · have lk' := lk.resolve_left z1
          have hcd : Cd N 9999 (h1 73) (o i) (o k) := ⟨hk.1, hk.2, z2.1, z2.2, z1⟩
          refine ih _ (by omega) (k + 1) _ rfl (by omega) (by omega) ((((hs.up (by decide)).up (by decide)).up (by decide)).up (by decide)) (hPeq (hL.better hV hd hcd z3 ?_ ?_ ?_ ?_ (fun f hf => ⟨?_, ?_, ?_⟩))) ?_
          · simp [x_nx, hup]
          · simp [x_nx, hup]
          · simp [x_nx, hup]
          · simp [x_nx, hup]
          · simp [x_nx, hup, hf]
          · simp [x_nx, hup, hf]
          · simp [x_nx, hup, hf]
          · simp [x_nx, hup]; omega
        · rw [e2]
          refine ih _ (by omega) (k + 1) _ rfl (by omega) (by omega) hs (hPeq ?_) hbd
          by_cases z1 : h1 73 (o k) ≠ 9999 ∧ J N (o i) (o k) ∧ frm N (o k) = dst N (o i)
          · have lk' := lk.resolve_left z1.1
            exact hL.worse (by omega) hPne (fun y => z ⟨z1, y⟩)
          · exact hL.skip (fun hc => z1 ⟨hc.2.2.2.2, hc.2.2.1, hc.2.2.2.1⟩)
abbrev lgC : List Nat := [64, 73, 74, 75, 76, 77]
/-- the goal b is laid -/
def goal (N : mN) (b : Int) (h : mH) : Prop := Lab N b 9999 (h 73) (h 74) (h 75) (h 76) ∧ (∀ d, dp N d → rn N d = 1 → lb h d 120) ∧ Sr N (h 77) (h 64 28) (nN N)
def lgI (N : mN) (b : Int) (o : mF) (h : mH) (i : Int) : Prop := ∀ j, 0 ≤ j → j < i → LabAt N b 9999 (h 73) (h 74) (h 75) (h 76) (o j) ∧ lb h (o j) (j + 1)
theorem lgI.step {N : mN} (hV : NV N) {b : Int} {o : mF} {m : Int} (hS : Sr N o m (nN N)) {h h1 : mH} {i : Int} (i0 : 0 ≤ i) (i1 : i < m) (hA : lgI N b o h i) (hs : sl h h1 (o i)) (h1' : LabAt N b 9999 (h1 73) (h1 74) (h1 75) (h1 76) (o i)) : lgI N b o h1 (i + 1) := by
  have old : ∀ j, 0 ≤ j → j < i → o j ≠ o i := fun j a c => (hS.2.2.1 j i a c i1).2
  intro j j0 j1
  by_cases ej : j = i
  · subst ej
    refine ⟨h1', ?_⟩
    have hd := (hS.2.1 j i0 i1).1
    have hv := hV.2.2.1 (o j) hd
    by_cases hb : dst N (o j) = b
    · obtain ⟨a1, a2, a3, -⟩ := h1'.1 hb
      exact Or.inr ⟨by omega, by omega, by omega, by omega⟩
    · rcases h1'.2 hb with ⟨-, w, -⟩ | ⟨f, -, w1, -, w3, w4, w5, -⟩
      · exact Or.inl w
      · obtain ⟨k, k0, k1, rfl⟩ := hS.jlt hV i0 i1 w1.1 w1.2.1 w1.2.2.1
        have hk := (hA k k0 k1).2
        have e73 := hs.2 73 (o k) (old k k0 k1)
        have e74 := hs.2 74 (o k) (old k k0 k1)
        have e75 := hs.2 75 (o k) (old k k0 k1)
        have hne := w1.2.2.2.2
        have ht := tn_b N (o j) (o k)
        unfold lb at hk
        exact Or.inr ⟨by omega, by omega, by omega, by omega⟩
  · have hj := hA j j0 (by omega)
    have hne := old j j0 (by omega)
    refine ⟨hj.1.congr ⟨hs.2 73 _ hne, hs.2 74 _ hne, hs.2 75 _ hne, hs.2 76 _ hne⟩ (fun f hf hJ => ?_), ?_⟩
    · have hfne : f ≠ o i := fun e => by
        subst e
        obtain ⟨k, k0, k1, k2⟩ := hS.jlt hV j0 (by omega) hf (hS.2.1 i i0 i1).2 hJ
        exact old k k0 (by omega) k2
      exact ⟨hs.2 73 _ hfne, hs.2 74 _ hfne, hs.2 75 _ hfne⟩
    · unfold lb
      rw [hs.2 73 _ hne, hs.2 74 _ hne, hs.2 75 _ hne]
      exact hj.2

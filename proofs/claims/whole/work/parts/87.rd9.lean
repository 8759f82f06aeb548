/-! LinkTimes$Reader: all lines -/
noncomputable def pCo (T : mF) (n : Int) (F : Nat) (q : Int) (st sx : pS) : Int × Int × pS :=
  if tK T n q = 3 then pAll T n F (tE T n q) st else if tK T n q = 4 then (if 0 < st.1 1 then (0, -1, st) else (6, tS T n q, sx)) else (1, tS T n q, sx)
theorem pAll_n {T : mF} {n : Int} {F : Nat} {p : Int} {st : pS} (h : (pL T n p st).1 ≠ 0) : pAll T n (F + 1) p st = ((pL T n p st).1, (pL T n p st).2.1, st) := by
  show (if (pL T n p st).1 ≠ 0 then _ else _) = _
  rw [if_pos h]
theorem pAll_y {T : mF} {n : Int} {F : Nat} {p : Int} {st : pS} (h : (pL T n p st).1 = 0) : pAll T n (F + 1) p st = pCo T n F (pL T n p st).2.2.1 (pL T n p st).2.2.2 st := by
  show (if (pL T n p st).1 ≠ 0 then _ else _) = _
  rw [if_neg (fun z => z h)]
  rfl
abbrev raQ (T : mF) (n : Int) (z : Int × Int × pS) (h : mH) (r : mR) : mP := fun rv h1 r1 => r1 = r ∧ rv = some (vI (bI (z.1 = 0))) ∧ fr rlC h h1 ∧ ft h1 z.1 z.2.1 ∧ (z.1 = 0 → dM 13 h1 z.2.2.1 ∧ PV T n z.2.2 ∧ 0 < z.2.2.1 1)
theorem raQ.n {T : mF} {n k pl : Int} {sx : pS} {z : Int × Int × pS} {h h1 : mH} {r : mR} (ez : z = (k, pl, sx)) (hk : k ≠ 0) (hF : fr rlC h h1) (hft : ft h1 k pl) : raQ T n z h r (some (vI 0)) h1 r := by
  subst ez
  exact ⟨rfl, by rw [bI_f hk], hF, hft, fun y => absurd y hk⟩
set_option maxRecDepth 100000 in
set_option maxHeartbeats 2000000 in
theorem Re_readL (T : mF) (n : Int) (z : Int × Int × pS) (h : mH) (r : mR) (hrde : r.1 24 4 = some 13) (n0 : 0 ≤ n ∧ n ≤ 900) : ∀ (F : Nat) (k q : Int) (st sx : pS) (h1 : mH), (n - q).toNat ≤ F → 0 ≤ k → k ≤ q → q ≤ n → z = pCo T n F q st sx → fr rlC h h1 → h1 1 = T → h1 24 3 = n → tkd T n q h1 → rdM T n h1 st → PV T n st → h1 24 0 = 0 → h1 24 1 = -1 → WP (true, rm 11) m_Re_read (rt m_Re_read (rm 11) (raQ T n z h r)) 48 [some (vR 24), some (vI n), some (vR 13), some (vI 1), some (vI k)] [] h1 r (0, 0) := by
  intro F
  induction F using Nat.strongRecOn with
  | ind F ih =>
    intro k q st sx h1 hF k0 k1 q1 hz hf hT hn hk hM hV g0 g1
    have e10 := hk.1
    have hs := tS_s (T := T) q1
    have he := tE_s (T := T) q1
    have d1 := hM.1.2.1
    have hS : rdS T n q h1 := ⟨hT, hn, n0.2, by omega, q1⟩
    obtain ⟨s2, p2⟩ := tkd_nx hS hk
    refine wq_iload_n (kk := 3) (q := 49) rfl rfl rfl ?_
    refine wq_if_eq (tgt := 80) (q := 52) rfl rfl rfl (fun c49 => ?_) (fun c49 => ?_)
    · skip
      have key : tK T n q ≠ 3 := by
        first | omega | (intro z; have := tk_3 (T := T) (n := n) (p := q) z; omega)
      refine wq_iload_n (kk := 3) (q := 81) rfl rfl rfl ?_
      refine wq_if_ne (tgt := 86) (q := 84) rfl rfl rfl (fun c81 => ?_) (fun c81 => ?_)
      · skip
        refine wq_aload_n (kk := 0) (q := 87) rfl rfl rfl ?_
        refine wq_getI (kz := 10) (q := 90) rfl f_Re_54 rfl rfl (Or.inl ⟨rfl, Nat.le_of_ble_eq_true rfl⟩) rfl rfl ?_
        refine wq_iconst (n := 4) (q := 91) rfl rfl rfl ?_
        refine wq_icmp_eq (tgt := 100) (q := 94) rfl rfl rfl (fun c91 => ?_) (fun c91 => ?_)
        · skip
          refine wq_aload_n (kk := 0) (q := 101) rfl rfl rfl ?_
          refine wq_getR (q := 104) f_Re_22 rfl rfl (Or.inl ⟨rfl, Nat.le_of_ble_eq_true rfl⟩) hrde rfl rfl ?_
          refine wq_callV (q := 107) (m' := m_De_isTold) (R' := rm 1) (As := []) rfl rfl l_Re_61 vm_De_isTold rfl rfl rfl (Or.inl ⟨rfl, Nat.le_of_ble_eq_true rfl⟩) (Nat.le_of_ble_eq_true rfl) (Nat.le_of_ble_eq_true rfl) (Nat.le_refl _) (Nat.le_refl _) (Nat.le_of_ble_eq_true rfl) (De_isTold_ok 13 (Or.inr rfl) h1 r) rfl ?_
          rintro rv h1 r ⟨rfl, rfl, rfl⟩ -
          rw [d1]
          refine wq_cif_ne (tgt := 119) (q := 110) rfl rfl rfl (fun c107 => ?_) (fun c107 => ?_)
          · skip
            refine wq_iconst (n := 1) (q := 120) rfl rfl rfl ?_
            refine wq_goto (tgt := 124) rfl rfl ?_
            have ez : z = (0, -1, st) := by rw [hz]; unfold pCo; rw [if_neg (by omega), if_pos (by omega), if_pos c107]
            subst ez
            exact wq_zret rfl rfl (Nat.le_refl _) (Nat.le_refl _) (by omega) ⟨rfl, by rw [bI_t rfl], hf, ⟨g0, g1⟩, fun _ => ⟨hM.1, hV, c107⟩⟩
          · skip
            refine wq_aload_n (kk := 0) (q := 111) rfl rfl rfl ?_
            refine wq_bipush (n := 6) (q := 113) rfl rfl rfl ?_
            refine wq_callV (q := 116) (m' := m_Re_fail) (R' := rm 1) (As := [_]) rfl rfl l_Re_57 vm_Re_fail rfl rfl rfl (Or.inl ⟨rfl, Nat.le_of_ble_eq_true rfl⟩) (Nat.le_of_ble_eq_true rfl) (Nat.le_of_ble_eq_true rfl) (Nat.le_refl _) (Nat.le_refl _) (Nat.le_of_ble_eq_true rfl) (Re_fail_ok 6 _ _) rfl ?_
            rintro rv h2 r ⟨rfl, rfl, rfl⟩ -
            have ez : z = (6, tS T n q, sx) := by rw [hz]; unfold pCo; rw [if_neg (by omega), if_pos (by omega), if_neg c107]
            refine wq_if_eq (tgt := 123) (q := 119) rfl rfl rfl (fun _ => ?_) (fun y => absurd rfl y)
            refine wq_iconst (n := 0) (q := 124) rfl rfl rfl ?_
            refine wq_zret rfl rfl (Nat.le_refl _) (Nat.le_refl _) (by omega) (raQ.n ez (by decide) ((hf.up (by decide)).up (by decide)) ⟨?_, ?_⟩)
            · rw [hup_j (by decide), hup_s]
            · rw [hup_s]; exact hk.2.1
        · skip
          refine wq_aload_n (kk := 0) (q := 95) rfl rfl rfl ?_
          refine wq_iconst (n := 1) (q := 96) rfl rfl rfl ?_
          refine wq_callV (q := 99) (m' := m_Re_fail) (R' := rm 1) (As := [_]) rfl rfl l_Re_57 vm_Re_fail rfl rfl rfl (Or.inl ⟨rfl, Nat.le_of_ble_eq_true rfl⟩) (Nat.le_of_ble_eq_true rfl) (Nat.le_of_ble_eq_true rfl) (Nat.le_refl _) (Nat.le_refl _) (Nat.le_of_ble_eq_true rfl) (Re_fail_ok 1 _ _) rfl ?_
          rintro rv h2 r ⟨rfl, rfl, rfl⟩ -
          have ez : z = (1, tS T n q, sx) := by rw [hz]; unfold pCo; rw [if_neg (by omega), if_neg (by omega)]
          refine wq_zret rfl rfl (Nat.le_refl _) (Nat.le_refl _) (by omega) (raQ.n ez (by decide) ((hf.up (by decide)).up (by decide)) ⟨?_, ?_⟩)
          · rw [hup_j (by decide), hup_s]
          · rw [hup_s]; exact hk.2.1
      · skip
        refine wq_iconst (n := 0) (q := 85) rfl rfl rfl ?_
        exfalso; omega
    · skip
      refine wq_aload_n (kk := 0) (q := 53) rfl rfl rfl ?_
      refine wq_getI (kz := 10) (q := 56) rfl f_Re_54 rfl rfl (Or.inl ⟨rfl, Nat.le_of_ble_eq_true rfl⟩) rfl rfl ?_
      refine wq_iconst (n := 3) (q := 57) rfl rfl rfl ?_
      refine wq_icmp_ne (tgt := 80) (q := 60) rfl rfl rfl (fun c57 => ?_) (fun c57 => ?_)
      · skip
        have key : tK T n q ≠ 3 := by
          first | omega | (intro z; have := tk_3 (T := T) (n := n) (p := q) z; omega)
        refine wq_iload_n (kk := 3) (q := 81) rfl rfl rfl ?_
        refine wq_if_ne (tgt := 86) (q := 84) rfl rfl rfl (fun c81 => ?_) (fun c81 => ?_)
        · skip
          refine wq_aload_n (kk := 0) (q := 87) rfl rfl rfl ?_
          refine wq_getI (kz := 10) (q := 90) rfl f_Re_54 rfl rfl (Or.inl ⟨rfl, Nat.le_of_ble_eq_true rfl⟩) rfl rfl ?_
          refine wq_iconst (n := 4) (q := 91) rfl rfl rfl ?_
          refine wq_icmp_eq (tgt := 100) (q := 94) rfl rfl rfl (fun c91 => ?_) (fun c91 => ?_)
          · skip
            refine wq_aload_n (kk := 0) (q := 101) rfl rfl rfl ?_
            refine wq_getR (q := 104) f_Re_22 rfl rfl (Or.inl ⟨rfl, Nat.le_of_ble_eq_true rfl⟩) hrde rfl rfl ?_
            refine wq_callV (q := 107) (m' := m_De_isTold) (R' := rm 1) (As := []) rfl rfl l_Re_61 vm_De_isTold rfl rfl rfl (Or.inl ⟨rfl, Nat.le_of_ble_eq_true rfl⟩) (Nat.le_of_ble_eq_true rfl) (Nat.le_of_ble_eq_true rfl) (Nat.le_refl _) (Nat.le_refl _) (Nat.le_of_ble_eq_true rfl) (De_isTold_ok 13 (Or.inr rfl) h1 r) rfl ?_
            rintro rv h1 r ⟨rfl, rfl, rfl⟩ -
            rw [d1]
            refine wq_cif_ne (tgt := 119) (q := 110) rfl rfl rfl (fun c107 => ?_) (fun c107 => ?_)
            · skip
              refine wq_iconst (n := 1) (q := 120) rfl rfl rfl ?_
              refine wq_goto (tgt := 124) rfl rfl ?_
              have ez : z = (0, -1, st) := by rw [hz]; unfold pCo; rw [if_neg (by omega), if_pos (by omega), if_pos c107]
              subst ez
              exact wq_zret rfl rfl (Nat.le_refl _) (Nat.le_refl _) (by omega) ⟨rfl, by rw [bI_t rfl], hf, ⟨g0, g1⟩, fun _ => ⟨hM.1, hV, c107⟩⟩
            · skip
              refine wq_aload_n (kk := 0) (q := 111) rfl rfl rfl ?_
              refine wq_bipush (n := 6) (q := 113) rfl rfl rfl ?_
              refine wq_callV (q := 116) (m' := m_Re_fail) (R' := rm 1) (As := [_]) rfl rfl l_Re_57 vm_Re_fail rfl rfl rfl (Or.inl ⟨rfl, Nat.le_of_ble_eq_true rfl⟩) (Nat.le_of_ble_eq_true rfl) (Nat.le_of_ble_eq_true rfl) (Nat.le_refl _) (Nat.le_refl _) (Nat.le_of_ble_eq_true rfl) (Re_fail_ok 6 _ _) rfl ?_
              rintro rv h2 r ⟨rfl, rfl, rfl⟩ -
              have ez : z = (6, tS T n q, sx) := by rw [hz]; unfold pCo; rw [if_neg (by omega), if_pos (by omega), if_neg c107]
              refine wq_if_eq (tgt := 123) (q := 119) rfl rfl rfl (fun _ => ?_) (fun y => absurd rfl y)
              refine wq_iconst (n := 0) (q := 124) rfl rfl rfl ?_
              refine wq_zret rfl rfl (Nat.le_refl _) (Nat.le_refl _) (by omega) (raQ.n ez (by decide) ((hf.up (by decide)).up (by decide)) ⟨?_, ?_⟩)
              · rw [hup_j (by decide), hup_s]
              · rw [hup_s]; exact hk.2.1
          · skip
            refine wq_aload_n (kk := 0) (q := 95) rfl rfl rfl ?_
            refine wq_iconst (n := 1) (q := 96) rfl rfl rfl ?_
            refine wq_callV (q := 99) (m' := m_Re_fail) (R' := rm 1) (As := [_]) rfl rfl l_Re_57 vm_Re_fail rfl rfl rfl (Or.inl ⟨rfl, Nat.le_of_ble_eq_true rfl⟩) (Nat.le_of_ble_eq_true rfl) (Nat.le_of_ble_eq_true rfl) (Nat.le_refl _) (Nat.le_refl _) (Nat.le_of_ble_eq_true rfl) (Re_fail_ok 1 _ _) rfl ?_
            rintro rv h2 r ⟨rfl, rfl, rfl⟩ -
            have ez : z = (1, tS T n q, sx) := by rw [hz]; unfold pCo; rw [if_neg (by omega), if_neg (by omega)]
            refine wq_zret rfl rfl (Nat.le_refl _) (Nat.le_refl _) (by omega) (raQ.n ez (by decide) ((hf.up (by decide)).up (by decide)) ⟨?_, ?_⟩)
            · rw [hup_j (by decide), hup_s]
            · rw [hup_s]; exact hk.2.1
        · skip
          refine wq_iconst (n := 0) (q := 85) rfl rfl rfl ?_
          exfalso; omega
      · skip
        refine wq_iload (i := 4) (q := 62) rfl rfl rfl ?_
        refine wq_aload_n (kk := 0) (q := 63) rfl rfl rfl ?_
        refine wq_getI (kz := 3) (q := 66) rfl f_Re_32 rfl rfl (Or.inl ⟨rfl, Nat.le_of_ble_eq_true rfl⟩) rfl rfl ?_
        refine wq_icmp_ge (tgt := 80) (q := 69) rfl rfl rfl (fun c66 => ?_) (fun c66 => ?_)
        · skip
          have key : tK T n q ≠ 3 := by
            first | omega | (intro z; have := tk_3 (T := T) (n := n) (p := q) z; omega)
          refine wq_iload_n (kk := 3) (q := 81) rfl rfl rfl ?_
          refine wq_if_ne (tgt := 86) (q := 84) rfl rfl rfl (fun c81 => ?_) (fun c81 => ?_)
          · skip
            refine wq_aload_n (kk := 0) (q := 87) rfl rfl rfl ?_
            refine wq_getI (kz := 10) (q := 90) rfl f_Re_54 rfl rfl (Or.inl ⟨rfl, Nat.le_of_ble_eq_true rfl⟩) rfl rfl ?_
            refine wq_iconst (n := 4) (q := 91) rfl rfl rfl ?_
            refine wq_icmp_eq (tgt := 100) (q := 94) rfl rfl rfl (fun c91 => ?_) (fun c91 => ?_)
            · skip
              refine wq_aload_n (kk := 0) (q := 101) rfl rfl rfl ?_
              refine wq_getR (q := 104) f_Re_22 rfl rfl (Or.inl ⟨rfl, Nat.le_of_ble_eq_true rfl⟩) hrde rfl rfl ?_
              refine wq_callV (q := 107) (m' := m_De_isTold) (R' := rm 1) (As := []) rfl rfl l_Re_61 vm_De_isTold rfl rfl rfl (Or.inl ⟨rfl, Nat.le_of_ble_eq_true rfl⟩) (Nat.le_of_ble_eq_true rfl) (Nat.le_of_ble_eq_true rfl) (Nat.le_refl _) (Nat.le_refl _) (Nat.le_of_ble_eq_true rfl) (De_isTold_ok 13 (Or.inr rfl) h1 r) rfl ?_
              rintro rv h1 r ⟨rfl, rfl, rfl⟩ -
              rw [d1]
              refine wq_cif_ne (tgt := 119) (q := 110) rfl rfl rfl (fun c107 => ?_) (fun c107 => ?_)
              · skip
                refine wq_iconst (n := 1) (q := 120) rfl rfl rfl ?_
                refine wq_goto (tgt := 124) rfl rfl ?_
                have ez : z = (0, -1, st) := by rw [hz]; unfold pCo; rw [if_neg (by omega), if_pos (by omega), if_pos c107]
                subst ez
                exact wq_zret rfl rfl (Nat.le_refl _) (Nat.le_refl _) (by omega) ⟨rfl, by rw [bI_t rfl], hf, ⟨g0, g1⟩, fun _ => ⟨hM.1, hV, c107⟩⟩
              · skip
                refine wq_aload_n (kk := 0) (q := 111) rfl rfl rfl ?_
                refine wq_bipush (n := 6) (q := 113) rfl rfl rfl ?_
                refine wq_callV (q := 116) (m' := m_Re_fail) (R' := rm 1) (As := [_]) rfl rfl l_Re_57 vm_Re_fail rfl rfl rfl (Or.inl ⟨rfl, Nat.le_of_ble_eq_true rfl⟩) (Nat.le_of_ble_eq_true rfl) (Nat.le_of_ble_eq_true rfl) (Nat.le_refl _) (Nat.le_refl _) (Nat.le_of_ble_eq_true rfl) (Re_fail_ok 6 _ _) rfl ?_
                rintro rv h2 r ⟨rfl, rfl, rfl⟩ -
                have ez : z = (6, tS T n q, sx) := by rw [hz]; unfold pCo; rw [if_neg (by omega), if_pos (by omega), if_neg c107]
                refine wq_if_eq (tgt := 123) (q := 119) rfl rfl rfl (fun _ => ?_) (fun y => absurd rfl y)
                refine wq_iconst (n := 0) (q := 124) rfl rfl rfl ?_
                refine wq_zret rfl rfl (Nat.le_refl _) (Nat.le_refl _) (by omega) (raQ.n ez (by decide) ((hf.up (by decide)).up (by decide)) ⟨?_, ?_⟩)
                · rw [hup_j (by decide), hup_s]
                · rw [hup_s]; exact hk.2.1
            · skip
              refine wq_aload_n (kk := 0) (q := 95) rfl rfl rfl ?_
              refine wq_iconst (n := 1) (q := 96) rfl rfl rfl ?_
              refine wq_callV (q := 99) (m' := m_Re_fail) (R' := rm 1) (As := [_]) rfl rfl l_Re_57 vm_Re_fail rfl rfl rfl (Or.inl ⟨rfl, Nat.le_of_ble_eq_true rfl⟩) (Nat.le_of_ble_eq_true rfl) (Nat.le_of_ble_eq_true rfl) (Nat.le_refl _) (Nat.le_refl _) (Nat.le_of_ble_eq_true rfl) (Re_fail_ok 1 _ _) rfl ?_
              rintro rv h2 r ⟨rfl, rfl, rfl⟩ -
              have ez : z = (1, tS T n q, sx) := by rw [hz]; unfold pCo; rw [if_neg (by omega), if_neg (by omega)]
              refine wq_zret rfl rfl (Nat.le_refl _) (Nat.le_refl _) (by omega) (raQ.n ez (by decide) ((hf.up (by decide)).up (by decide)) ⟨?_, ?_⟩)
              · rw [hup_j (by decide), hup_s]
              · rw [hup_s]; exact hk.2.1
          · skip
            refine wq_iconst (n := 0) (q := 85) rfl rfl rfl ?_
            exfalso; omega
        · skip
          refine wq_aload_n (kk := 0) (q := 70) rfl rfl rfl ?_
          refine wq_callV (q := 73) (m' := m_Re_readLine) (R' := rm 10) (As := []) rfl rfl l_Re_50 vm_Re_readLine rfl rfl rfl (Or.inl ⟨rfl, Nat.le_of_ble_eq_true rfl⟩) (Nat.le_of_ble_eq_true rfl) (Nat.le_of_ble_eq_true rfl) (Nat.le_refl _) (Nat.le_refl _) (Nat.le_of_ble_eq_true rfl) (Re_readLine_ok T n _ st h1 r hrde s2 p2 hM hV) rfl ?_
          rintro rv h2 r ⟨rfl, g2, hq⟩ -
          have t3 := tk_3 (T := T) (n := n) (p := q) (by omega)
          obtain ⟨F', rfl⟩ : ∃ F', F = F' + 1 := ⟨F - 1, by omega⟩
          have hz' : z = pAll T n (F' + 1) (tE T n q) st := by rw [hz]; unfold pCo; rw [if_pos (by omega)]
          have hf2 : fr rlC h h2 := hf.trans g2.1 (fun _ y => y)
          rcases hq with ⟨x0, rfl, y1, y2, y3, y4⟩ | ⟨x0, rfl, y1⟩
          · have v := pL_V s2.2.2.2.1 s2.2.2.2.2 hV x0
            refine wq_istore_n (kk := 3) (q := 74) rfl rfl (Nat.le_of_ble_eq_true rfl) rfl ?_
            refine wq_iinc (i := 4) (n := 1) (q := 77) rfl rfl rfl (Nat.le_of_ble_eq_true rfl) rfl (by omega) (by omega) ?_
            refine wq_goto (tgt := 48) rfl rfl ?_
            refine ih F' (by omega) (k + 1) _ _ st h2 (by omega) (by omega) (by omega) v.2.2 (by rw [hz', pAll_y x0]) hf2 ?_ ?_ y1 y2 v.1 (y3.trans g0) (y4.trans g1)
            · rw [g2.1 1 (by decide)]; exact hT
            · rw [g2.2]; exact hn
          · refine wq_istore_n (kk := 3) (q := 74) rfl rfl (Nat.le_of_ble_eq_true rfl) rfl ?_
            refine wq_iinc (i := 4) (n := 1) (q := 77) rfl rfl rfl (Nat.le_of_ble_eq_true rfl) rfl (by omega) (by omega) ?_
            refine wq_goto (tgt := 48) rfl rfl ?_
            refine wq_iload_n (kk := 3) (q := 49) rfl rfl rfl ?_
            refine wq_if_eq (tgt := 80) (q := 52) rfl rfl rfl (fun _ => ?_) (fun y => absurd rfl y)
            refine wq_iload_n (kk := 3) (q := 81) rfl rfl rfl ?_
            refine wq_if_ne (tgt := 86) (q := 84) rfl rfl rfl (fun y => absurd rfl y) (fun _ => ?_)
            refine wq_iconst (n := 0) (q := 85) rfl rfl rfl ?_
            exact wq_zret rfl rfl (Nat.le_refl _) (Nat.le_refl _) (by omega) (raQ.n (by rw [hz', pAll_n x0]) x0 hf2 y1)
def st0 : pS := (fun _ => 0, fun _ => 0, fun _ => 0)
theorem st0_V {T : mF} {n : Int} : PV T n st0 := by
  refine ⟨⟨?_, ?_, ?_, ?_, ?_, fun _ => ⟨rfl, rfl, rfl, rfl⟩, fun s s0 s1 => ?_, fun d d0 d1 => ?_⟩, fun s s0 s1 => ?_, fun s s0 s1 => ?_⟩
  · show (0 : Int) ≤ 0 ∧ (0 : Int) ≤ 999; omega
  · show (0 : Int) ≤ 0 ∧ (0 : Int) ≤ 10; omega
  · show (0 : Int) ≤ 0 ∧ (0 : Int) ≤ 8; omega
  · show (0 : Int) ≤ 0 ∧ (0 : Int) ≤ 12; omega
  · show (0 : Int) ≤ 0 ∧ (0 : Int) ≤ 120; omega
  · have : s < 0 := s1; omega
  · have : d < 0 := d1; omega
  · have : s < 0 := s1; omega
  · have : s < 0 := s1; omega
/-- what a text tells -/
noncomputable def pRd (T : mF) (n : Int) : Int × Int × pS := pAll T n (n.toNat + 1) 0 st0
set_option maxRecDepth 100000 in
set_option maxHeartbeats 2000000 in
theorem Re_read_ok (n : Int) (h : mH) (r : mR) (n0 : 0 ≤ n ∧ n ≤ 900) : Meets true (rm 11) m_Re_read [vR 24, vI n, vR 13] h r (raQ (h 1) n (pRd (h 1) n) h (rup r 24 4 (some 13))) := by
  refine ⟨ok_Re_read, Nat.le_of_ble_eq_true rfl, ?_⟩
  refine wq_aload_n (kk := 0) (q := 1) rfl rfl rfl ?_
  refine wq_iload_n (kk := 1) (q := 2) rfl rfl rfl ?_
  refine wq_aload_n (kk := 0) (q := 3) rfl rfl rfl ?_
  refine wq_getF (q := 6) f_Re_18 rfl rfl (Nat.le_of_ble_eq_true rfl) rfl rfl rfl ?_
  refine wq_alenB (q := 7) rfl (Or.inl ⟨rfl, Nat.le_of_ble_eq_true rfl⟩) rfl rfl rfl ?_
  refine wq_min (q := 10) k_Re_26 k_math_min k_math_min_s k_math_i rfl rfl (Nat.le_of_ble_eq_true rfl) (Nat.le_of_ble_eq_true rfl) (Nat.le_refl _) (Nat.le_refl _) (Nat.le_of_ble_eq_true rfl) ?_
  rw [if_neg (by omega)]
  refine wq_putI (kz := 3) (q := 13) rfl f_Re_32 rfl rfl rfl (Or.inl ⟨rfl, Nat.le_of_ble_eq_true rfl⟩) rfl rfl ?_
  refine wq_aload_n (kk := 0) (q := 14) rfl rfl rfl ?_
  refine wq_aload_n (kk := 2) (q := 15) rfl rfl rfl ?_
  refine wq_putR (q := 18) f_Re_22 rfl rfl rfl (Or.inl ⟨rfl, Nat.le_of_ble_eq_true rfl⟩) (Or.inl ⟨rfl, Nat.le_of_ble_eq_true rfl⟩) (fun _ => rfl) rfl rfl ?_
  have hrde : (rup r 24 4 (some 13)).1 24 4 = some 13 := by simp [rup]
  refine wq_aload_n (kk := 0) (q := 19) rfl rfl rfl ?_
  refine wq_getR (q := 22) f_Re_22 rfl rfl (Or.inl ⟨rfl, Nat.le_of_ble_eq_true rfl⟩) hrde rfl rfl ?_
  refine wq_callV (q := 25) (m' := m_De_clear) (R' := rm 1) (As := []) rfl rfl l_Re_36 vm_De_clear rfl rfl rfl (Or.inl ⟨rfl, Nat.le_of_ble_eq_true rfl⟩) (Nat.le_of_ble_eq_true rfl) (Nat.le_of_ble_eq_true rfl) (Nat.le_refl _) (Nat.le_refl _) (Nat.le_of_ble_eq_true rfl) (De_clear_ok _ _) rfl ?_
  rintro rv h1 r1 ⟨rfl, rfl, rfl⟩ -
  refine wq_aload_n (kk := 0) (q := 26) rfl rfl rfl ?_
  refine wq_iconst (n := 0) (q := 27) rfl rfl rfl ?_
  refine wq_putI (kz := 0) (q := 30) rfl f_Re_41 rfl rfl rfl (Or.inl ⟨rfl, Nat.le_of_ble_eq_true rfl⟩) rfl rfl ?_
  refine wq_aload_n (kk := 0) (q := 31) rfl rfl rfl ?_
  refine wq_iconst (n := -1) (q := 32) rfl rfl rfl ?_
  refine wq_putI (kz := 1) (q := 35) rfl f_Re_44 rfl rfl rfl (Or.inl ⟨rfl, Nat.le_of_ble_eq_true rfl⟩) rfl rfl ?_
  refine wq_aload_n (kk := 0) (q := 36) rfl rfl rfl ?_
  refine wq_iconst (n := 0) (q := 37) rfl rfl rfl ?_
  refine wq_putI (kz := 12) (q := 40) rfl f_Re_47 rfl rfl rfl (Or.inl ⟨rfl, Nat.le_of_ble_eq_true rfl⟩) rfl rfl ?_
  generalize hh : hup (hup (hup _ 24 0 0) 24 1 (-1)) 24 12 0 = h2
  have f2 : fr rlC h h2 := by
    rw [← hh]
    exact ((((((((fr.rf.up (by decide)).up (by decide)).up (by decide)).up (by decide)).up (by decide)).up (by decide)).up (by decide)).up (by decide)).up (by decide)
  have hT : h2 1 = h 1 := f2 1 (by decide)
  have g3 : h2 24 3 = n := by rw [← hh]; simp [hup]
  have g0 : h2 24 0 = 0 := by rw [← hh]; simp [hup]
  have g1 : h2 24 1 = -1 := by rw [← hh]; simp [hup]
  have g12 : h2 24 12 = 0 := by rw [← hh]; simp [hup]
  have hM : rdM (h 1) n h2 st0 := by
    refine ⟨⟨?_, ?_, ?_, ?_, ?_, fun s s0 s1 => ?_, fun d d0 d1 => ?_⟩, fun s s0 s1 => ?_, fun s s0 s1 => ?_⟩
    · rw [← hh]; simp [hup, st0]
    · rw [← hh]; simp [hup, st0]
    · rw [← hh]; simp [hup, st0]
    · rw [← hh]; simp [hup, st0]
    · rw [← hh]; simp [hup, st0]
    · have : s < 0 := s1; omega
    · have : d < 0 := d1; omega
    · have : s < 0 := s1; omega
    · have : s < 0 := s1; omega
  have hS : rdS (h 1) n 0 h2 := ⟨hT, g3, n0.2, Int.le_refl _, n0.1⟩
  refine wq_aload_n (kk := 0) (q := 41) rfl rfl rfl ?_
  refine wq_callV (q := 44) (m' := m_Re_readLine) (R' := rm 10) (As := []) rfl rfl l_Re_50 vm_Re_readLine rfl rfl rfl (Or.inl ⟨rfl, Nat.le_of_ble_eq_true rfl⟩) (Nat.le_of_ble_eq_true rfl) (Nat.le_of_ble_eq_true rfl) (Nat.le_refl _) (Nat.le_refl _) (Nat.le_of_ble_eq_true rfl) (Re_readLine_ok (h 1) n 0 st0 h2 _ hrde hS g12 hM st0_V) rfl ?_
  rintro rv h3 r3 ⟨rfl, g4, hq⟩ -
  have f3 : fr rlC h h3 := f2.trans g4.1 (fun _ y => y)
  rcases hq with ⟨x0, rfl, y1, y2, y3, y4⟩ | ⟨x0, rfl, y1⟩
  · have v := pL_V (Int.le_refl 0) n0.1 st0_V x0
    refine wq_istore_n (kk := 3) (q := 45) rfl rfl (Nat.le_of_ble_eq_true rfl) rfl ?_
    refine wq_iconst (n := 0) (q := 46) rfl rfl rfl ?_
    refine wq_istore (i := 4) (q := 48) rfl rfl (Nat.le_of_ble_eq_true rfl) rfl ?_
    refine Re_readL (h 1) n _ h _ hrde n0 n.toNat 0 _ _ st0 h3 (by omega) (by omega) (by omega) v.2.2 (by unfold pRd; rw [pAll_y x0]) f3 ?_ ?_ y1 y2 v.1 (y3.trans g0) (y4.trans g1)
    · rw [g4.1 1 (by decide)]; exact hT
    · rw [g4.2]; exact g3
  · refine wq_istore_n (kk := 3) (q := 45) rfl rfl (Nat.le_of_ble_eq_true rfl) rfl ?_
    refine wq_iconst (n := 0) (q := 46) rfl rfl rfl ?_
    refine wq_istore (i := 4) (q := 48) rfl rfl (Nat.le_of_ble_eq_true rfl) rfl ?_
    refine wq_iload_n (kk := 3) (q := 49) rfl rfl rfl ?_
    refine wq_if_eq (tgt := 80) (q := 52) rfl rfl rfl (fun _ => ?_) (fun y => absurd rfl y)
    refine wq_iload_n (kk := 3) (q := 81) rfl rfl rfl ?_
    refine wq_if_ne (tgt := 86) (q := 84) rfl rfl rfl (fun y => absurd rfl y) (fun _ => ?_)
    refine wq_iconst (n := 0) (q := 85) rfl rfl rfl ?_
    exact wq_zret rfl rfl (Nat.le_refl _) (Nat.le_refl _) (by omega) (raQ.n (by unfold pRd; rw [pAll_n x0]) x0 f3 y1)

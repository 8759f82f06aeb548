/-! LinkTimesModel: a line, all lines -/
set_option maxRecDepth 100000 in
set_option maxHeartbeats 1000000 in
theorem Mo_readLine_ok (T : mF) (n p : Int) (st : pS) (h : mH) (r : mR) (hS : rdR T n p h) (hk : tkR T n p h) (hM : mrR T n h st) (hV : PV T n st) : Meets true (rm 10) m_Mo_readLine [vR 64] h r (lnR T n (pL T n p st) h r) := by
  have n0 : ∀ {j : Nat}, ¬ Wd T n p j → ¬ bI (Wd T n p j) = 1 := fun z => by rw [bI_f z]; decide
  refine ⟨ok_Mo_readLine, Nat.le_of_ble_eq_true rfl, ?_⟩
  refine wq_aload_n (kk := 0) (q := 1) rfl rfl rfl ?_
  refine wq_ldcs (j := 0) (q := 3) (by decide) (Nat.le_of_ble_eq_true rfl) rfl rfl ?_
  refine wq_callV (q := 6) (m' := m_Mo_isWord) (R' := rm 6) (As := [_]) rfl rfl l_Mo_137 vm_Mo_isWord rfl rfl rfl (Or.inl ⟨rfl, Nat.le_of_ble_eq_true rfl⟩) (Nat.le_of_ble_eq_true rfl) (Nat.le_of_ble_eq_true rfl) (Nat.le_refl _) (Nat.le_refl _) (Nat.le_of_ble_eq_true rfl) (Mo_isWord_ok 0 (by decide) T n p h r hS hk) rfl ?_
  rintro rv h r ⟨rfl, rfl, rfl⟩ -
  refine wq_cif_eq (tgt := 14) (q := 9) rfl rfl rfl (fun c6 => ?_) (fun c6 => ?_)
  · skip
    refine wq_aload_n (kk := 0) (q := 15) rfl rfl rfl ?_
    refine wq_ldcs (j := 1) (q := 17) (by decide) (Nat.le_of_ble_eq_true rfl) rfl rfl ?_
    refine wq_callV (q := 20) (m' := m_Mo_isWord) (R' := rm 6) (As := [_]) rfl rfl l_Mo_137 vm_Mo_isWord rfl rfl rfl (Or.inl ⟨rfl, Nat.le_of_ble_eq_true rfl⟩) (Nat.le_of_ble_eq_true rfl) (Nat.le_of_ble_eq_true rfl) (Nat.le_refl _) (Nat.le_refl _) (Nat.le_of_ble_eq_true rfl) (Mo_isWord_ok 1 (by decide) T n p h r hS hk) rfl ?_
    rintro rv h r ⟨rfl, rfl, rfl⟩ -
    refine wq_cif_eq (tgt := 28) (q := 23) rfl rfl rfl (fun c20 => ?_) (fun c20 => ?_)
    · skip
      refine wq_aload_n (kk := 0) (q := 29) rfl rfl rfl ?_
      refine wq_ldcs (j := 2) (q := 31) (by decide) (Nat.le_of_ble_eq_true rfl) rfl rfl ?_
      refine wq_callV (q := 34) (m' := m_Mo_isWord) (R' := rm 6) (As := [_]) rfl rfl l_Mo_137 vm_Mo_isWord rfl rfl rfl (Or.inl ⟨rfl, Nat.le_of_ble_eq_true rfl⟩) (Nat.le_of_ble_eq_true rfl) (Nat.le_of_ble_eq_true rfl) (Nat.le_refl _) (Nat.le_refl _) (Nat.le_of_ble_eq_true rfl) (Mo_isWord_ok 2 (by decide) T n p h r hS hk) rfl ?_
      rintro rv h r ⟨rfl, rfl, rfl⟩ -
      refine wq_cif_eq (tgt := 42) (q := 37) rfl rfl rfl (fun c34 => ?_) (fun c34 => ?_)
      · skip
        refine wq_aload_n (kk := 0) (q := 43) rfl rfl rfl ?_
        refine wq_ldcs (j := 3) (q := 45) (by decide) (Nat.le_of_ble_eq_true rfl) rfl rfl ?_
        refine wq_callV (q := 48) (m' := m_Mo_isWord) (R' := rm 6) (As := [_]) rfl rfl l_Mo_137 vm_Mo_isWord rfl rfl rfl (Or.inl ⟨rfl, Nat.le_of_ble_eq_true rfl⟩) (Nat.le_of_ble_eq_true rfl) (Nat.le_of_ble_eq_true rfl) (Nat.le_refl _) (Nat.le_refl _) (Nat.le_of_ble_eq_true rfl) (Mo_isWord_ok 3 (by decide) T n p h r hS hk) rfl ?_
        rintro rv h r ⟨rfl, rfl, rfl⟩ -
        refine wq_cif_eq (tgt := 58) (q := 51) rfl rfl rfl (fun c48 => ?_) (fun c48 => ?_)
        · skip
          refine wq_aload_n (kk := 0) (q := 59) rfl rfl rfl ?_
          refine wq_iconst (n := 1) (q := 60) rfl rfl rfl ?_
          refine wq_callV (q := 63) (m' := m_Mo_errs) (R' := rm 1) (As := [_]) rfl rfl l_Mo_130 vm_Mo_errs rfl rfl rfl (Or.inl ⟨rfl, Nat.le_of_ble_eq_true rfl⟩) (Nat.le_of_ble_eq_true rfl) (Nat.le_of_ble_eq_true rfl) (Nat.le_refl _) (Nat.le_refl _) (Nat.le_of_ble_eq_true rfl) (Mo_errs_ok 1 h r) rfl ?_
          rintro rv h1 r ⟨rfl, rfl, rfl⟩ -
          first
          | (refine wq_zret rfl rfl (Nat.le_refl _) (Nat.le_refl _) (bI_z _) ?_
             unfold pL
             rw [if_neg (n0 c6), if_neg (n0 c20), if_neg (n0 c34), if_pos (bI_t c48)]
             exact ⟨rfl, f1, rfl, a1, b1⟩)
          | (refine wq_zret rfl rfl (Nat.le_refl _) (Nat.le_refl _) (by omega) (lnR.e (k := 1) (pl := tS T n p) (q := 0) (st := st) ?_ (by decide) f64.rf hk.1)
             unfold pL
             rw [if_neg (n0 c6), if_neg (n0 c20), if_neg (n0 c34), if_neg (n0 c48)])
        · skip
          refine wq_aload_n (kk := 0) (q := 52) rfl rfl rfl ?_
          refine wq_callV (q := 55) (m' := m_Mo_readLink) (R' := rm 9) (As := []) rfl rfl l_Mo_222 vm_Mo_readLink rfl rfl rfl (Or.inl ⟨rfl, Nat.le_of_ble_eq_true rfl⟩) (Nat.le_of_ble_eq_true rfl) (Nat.le_of_ble_eq_true rfl) (Nat.le_refl _) (Nat.le_refl _) (Nat.le_of_ble_eq_true rfl) (Mo_readLink_ok T n p st h r hS hk (Wd_5 c48) hM hV) rfl ?_
          rintro rv h1 r ⟨rfl, f1, rfl, a1, b1⟩ -
          refine wq_goto (tgt := 63) rfl rfl ?_
          first
          | (refine wq_zret rfl rfl (Nat.le_refl _) (Nat.le_refl _) (bI_z _) ?_
             unfold pL
             rw [if_neg (n0 c6), if_neg (n0 c20), if_neg (n0 c34), if_pos (bI_t c48)]
             exact ⟨rfl, f1, rfl, a1, b1⟩)
          | (refine wq_zret rfl rfl (Nat.le_refl _) (Nat.le_refl _) (by omega) (lnR.e (k := 1) (pl := tS T n p) (q := 0) (st := st) ?_ (by decide) f64.rf hk.1)
             unfold pL
             rw [if_neg (n0 c6), if_neg (n0 c20), if_neg (n0 c34), if_neg (n0 c48)])
      · skip
        refine wq_aload_n (kk := 0) (q := 38) rfl rfl rfl ?_
        refine wq_callV (q := 41) (m' := m_Mo_readOneLine) (R' := rm 9) (As := []) rfl rfl l_Mo_219 vm_Mo_readOneLine rfl rfl rfl (Or.inl ⟨rfl, Nat.le_of_ble_eq_true rfl⟩) (Nat.le_of_ble_eq_true rfl) (Nat.le_of_ble_eq_true rfl) (Nat.le_refl _) (Nat.le_refl _) (Nat.le_of_ble_eq_true rfl) (Mo_readOneLine_ok T n p st h r hS hk (Wd_5 c34) hM hV) rfl ?_
        rintro rv h1 r ⟨rfl, f1, rfl, a1, b1⟩ -
        refine wq_zret rfl rfl (Nat.le_refl _) (Nat.le_refl _) (bI_z _) ?_
        unfold pL
        rw [if_neg (n0 c6), if_neg (n0 c20), if_pos (bI_t c34)]
        exact ⟨rfl, f1, rfl, a1, b1⟩
    · skip
      refine wq_aload_n (kk := 0) (q := 24) rfl rfl rfl ?_
      refine wq_callV (q := 27) (m' := m_Mo_readSpot) (R' := rm 9) (As := []) rfl rfl l_Mo_216 vm_Mo_readSpot rfl rfl rfl (Or.inl ⟨rfl, Nat.le_of_ble_eq_true rfl⟩) (Nat.le_of_ble_eq_true rfl) (Nat.le_of_ble_eq_true rfl) (Nat.le_refl _) (Nat.le_refl _) (Nat.le_of_ble_eq_true rfl) (Mo_readSpot_ok T n p st h r hS hk (Wd_5 c20) hM hV) rfl ?_
      rintro rv h1 r ⟨rfl, f1, rfl, a1, b1⟩ -
      refine wq_zret rfl rfl (Nat.le_refl _) (Nat.le_refl _) (bI_z _) ?_
      unfold pL
      rw [if_neg (n0 c6), if_pos (bI_t c20)]
      exact ⟨rfl, f1, rfl, a1, b1⟩
  · skip
    refine wq_aload_n (kk := 0) (q := 10) rfl rfl rfl ?_
    refine wq_callV (q := 13) (m' := m_Mo_readDesk) (R' := rm 8) (As := []) rfl rfl l_Mo_213 vm_Mo_readDesk rfl rfl rfl (Or.inl ⟨rfl, Nat.le_of_ble_eq_true rfl⟩) (Nat.le_of_ble_eq_true rfl) (Nat.le_of_ble_eq_true rfl) (Nat.le_refl _) (Nat.le_refl _) (Nat.le_of_ble_eq_true rfl) (Mo_readDesk_ok T n p st h r hS hk (Wd_5 c6) hM) rfl ?_
    rintro rv h1 r ⟨rfl, f1, rfl, a1, b1⟩ -
    refine wq_zret rfl rfl (Nat.le_refl _) (Nat.le_refl _) (bI_z _) ?_
    unfold pL
    rw [if_pos (bI_t c6)]
    exact ⟨rfl, f1, rfl, a1, b1⟩
abbrev raF : List Int := [12, 13, 14, 15, 16, 17, 18, 19]
def raR (T : mF) (n : Int) (z : Int × Int × pS) (h : mH) (r : mR) : mP := fun rv h1 r1 => r1 = r ∧ f64 raF rrC h h1 ∧ rv = some (vI (bI (z.1 = 0))) ∧ (z.1 = 0 → mrR T n h1 z.2.2 ∧ PV T n z.2.2 ∧ 0 < z.2.2.1 1) ∧ (z.1 ≠ 0 → h1 64 17 = z.1 ∧ h1 64 18 = z.2.1)
theorem raR.n {T : mF} {n k pl : Int} {sx : pS} {z : Int × Int × pS} {h h1 : mH} {r : mR} (ez : z = (k, pl, sx)) (hk : k ≠ 0) (f : f64 raF rrC h h1) (a : h1 64 17 = k) (b : h1 64 18 = pl) : raR T n z h r (some (vI 0)) h1 r := by
  subst ez
  exact ⟨rfl, f, by rw [bI_f hk], fun y => absurd y hk, fun _ => ⟨a, b⟩⟩
theorem raR.e {T : mF} {n k pl : Int} {sx : pS} {z : Int × Int × pS} {h h1 : mH} {r : mR} (ez : z = (k, pl, sx)) (hk : k ≠ 0) (f : f64 raF rrC h h1) (hp : h1 64 13 = pl) : raR T n z h r (some (vI 0)) (erd h1 k) r := raR.n ez hk ((f.up (by decide) (by decide)).up (by decide) (by decide)) erd_17 (by rw [erd_18]; exact hp)
set_option maxRecDepth 100000 in
set_option maxHeartbeats 2000000 in
theorem Mo_readL (T : mF) (n : Int) (z : Int × Int × pS) (h : mH) (r : mR) (x2 : Option mV) : ∀ (F : Nat) (q : Int) (st sx : pS) (h1 : mH), (n - q).toNat ≤ F → z = pCo T n F q st sx → f64 raF rrC h h1 → rdR T n q h1 → tkR T n q h1 → mrR T n h1 st → PV T n st → WP (true, rm 11) m_Mo_readAll (rt m_Mo_readAll (rm 11) (raR T n z h r)) 48 [some (vR 64), some (vI n), x2] [] h1 r (0, 0) := by
  intro F
  induction F using Nat.strongRecOn with
  | ind F ih =>
    intro q st sx h1 hF hz hf hS hk hM hV
    have e15 := hk.2.1
    have k3 := kR_3 (k := tK T n q)
    have k4 := kR_4 (k := tK T n q)
    have q0 := hS.2.2.2
    have q1 := tE_p (T := T) q0.1 q0.2
    have m1 := hM.2.1.n.1
    refine wq_aload_n (kk := 0) (q := 49) rfl rfl rfl ?_
    refine wq_getI (kz := 15) (q := 52) rfl f_Mo_104 rfl rfl (Or.inl ⟨rfl, Nat.le_of_ble_eq_true rfl⟩) rfl rfl ?_
    refine wq_bipush (n := 59) (q := 54) rfl rfl rfl ?_
    refine wq_icmp_ne (tgt := 70) (q := 57) rfl rfl rfl (fun c54 => ?_) (fun c54 => ?_)
    · skip
      have y3 : tK T n q ≠ 3 := fun w => by have := k3.2 w; omega
      refine wq_aload_n (kk := 0) (q := 71) rfl rfl rfl ?_
      refine wq_getI (kz := 15) (q := 74) rfl f_Mo_104 rfl rfl (Or.inl ⟨rfl, Nat.le_of_ble_eq_true rfl⟩) rfl rfl ?_
      refine wq_if_eq (tgt := 83) (q := 77) rfl rfl rfl (fun c74 => ?_) (fun c74 => ?_)
      · skip
        have y4 : tK T n q = 4 := k4.1 (by omega)
        refine wq_aload_n (kk := 0) (q := 84) rfl rfl rfl ?_
        refine wq_getF (q := 87) f_Mo_20 rfl rfl (Nat.le_of_ble_eq_true rfl) rfl rfl rfl ?_
        refine wq_iconst (n := 1) (q := 88) rfl rfl rfl ?_
        refine wq_iald (q := 89) rfl (Or.inl ⟨rfl, Nat.le_of_ble_eq_true rfl⟩) rfl rfl (by first | omega | (simp [hup]; omega)) (by first | omega | (simp [hup]; omega)) ?_
        refine wq_if_gt (tgt := 101) (q := 92) rfl rfl rfl (fun c89 => ?_) (fun c89 => ?_)
        · skip
          refine wq_iconst (n := 1) (q := 102) rfl rfl rfl ?_
          refine wq_goto (tgt := 106) rfl rfl ?_
          first
          | exact c98.elim
          | exact wq_zret rfl rfl (Nat.le_refl _) (Nat.le_refl _) (by omega) (raR.e (sx := sx) (hz.trans (by unfold pCo; rw [if_neg y3, if_pos y4, if_neg (by omega)])) (by decide) hf hk.1)
          | (have ez : z = (0, -1, st) := hz.trans (by unfold pCo; rw [if_neg y3, if_pos y4, if_pos (by omega)])
             subst ez
             exact wq_zret rfl rfl (Nat.le_refl _) (Nat.le_refl _) (by omega) ⟨rfl, hf, by rw [bI_t rfl], fun _ => ⟨hM, hV, by show 0 < st.1 1; omega⟩, fun y => absurd rfl y⟩)
        · skip
          refine wq_aload_n (kk := 0) (q := 93) rfl rfl rfl ?_
          refine wq_bipush (n := 6) (q := 95) rfl rfl rfl ?_
          refine wq_callV (q := 98) (m' := m_Mo_errs) (R' := rm 1) (As := [_]) rfl rfl l_Mo_130 vm_Mo_errs rfl rfl rfl (Or.inl ⟨rfl, Nat.le_of_ble_eq_true rfl⟩) (Nat.le_of_ble_eq_true rfl) (Nat.le_of_ble_eq_true rfl) (Nat.le_refl _) (Nat.le_refl _) (Nat.le_of_ble_eq_true rfl) (Mo_errsF_ok 6 h1 r) rfl ?_
          rintro rv h2 r ⟨rfl, rfl, rfl⟩ -
          refine wq_cif_eq (tgt := 105) (q := 101) rfl rfl rfl (fun c98 => ?_) (fun c98 => ?_)
          · skip
            refine wq_iconst (n := 0) (q := 106) rfl rfl rfl ?_
            first
            | exact c98.elim
            | exact wq_zret rfl rfl (Nat.le_refl _) (Nat.le_refl _) (by omega) (raR.e (sx := sx) (hz.trans (by unfold pCo; rw [if_neg y3, if_pos y4, if_neg (by omega)])) (by decide) hf hk.1)
            | (have ez : z = (0, -1, st) := hz.trans (by unfold pCo; rw [if_neg y3, if_pos y4, if_pos (by omega)])
               subst ez
               exact wq_zret rfl rfl (Nat.le_refl _) (Nat.le_refl _) (by omega) ⟨rfl, hf, by rw [bI_t rfl], fun _ => ⟨hM, hV, by show 0 < st.1 1; omega⟩, fun y => absurd rfl y⟩)
          · skip
            refine wq_iconst (n := 1) (q := 102) rfl rfl rfl ?_
            refine wq_goto (tgt := 106) rfl rfl ?_
            first
            | exact c98.elim
            | exact wq_zret rfl rfl (Nat.le_refl _) (Nat.le_refl _) (by omega) (raR.e (sx := sx) (hz.trans (by unfold pCo; rw [if_neg y3, if_pos y4, if_neg (by omega)])) (by decide) hf hk.1)
            | (have ez : z = (0, -1, st) := hz.trans (by unfold pCo; rw [if_neg y3, if_pos y4, if_pos (by omega)])
               subst ez
               exact wq_zret rfl rfl (Nat.le_refl _) (Nat.le_refl _) (by omega) ⟨rfl, hf, by rw [bI_t rfl], fun _ => ⟨hM, hV, by show 0 < st.1 1; omega⟩, fun y => absurd rfl y⟩)
      · skip
        refine wq_aload_n (kk := 0) (q := 78) rfl rfl rfl ?_
        refine wq_iconst (n := 1) (q := 79) rfl rfl rfl ?_
        refine wq_callV (q := 82) (m' := m_Mo_errs) (R' := rm 1) (As := [_]) rfl rfl l_Mo_130 vm_Mo_errs rfl rfl rfl (Or.inl ⟨rfl, Nat.le_of_ble_eq_true rfl⟩) (Nat.le_of_ble_eq_true rfl) (Nat.le_of_ble_eq_true rfl) (Nat.le_refl _) (Nat.le_refl _) (Nat.le_of_ble_eq_true rfl) (Mo_errs_ok 1 h1 r) rfl ?_
        rintro rv h2 r ⟨rfl, rfl, rfl⟩ -
        have y4 : tK T n q ≠ 4 := fun w => by have := k4.2 w; omega
        exact wq_zret rfl rfl (Nat.le_refl _) (Nat.le_refl _) (by omega) (raR.e (sx := sx) (hz.trans (by unfold pCo; rw [if_neg y3, if_neg y4])) (by decide) hf hk.1)
    · skip
      have y3 : tK T n q = 3 := k3.1 (by omega)
      have t3 := tk_3 y3
      obtain ⟨F', rfl⟩ : ∃ F', F = F' + 1 := ⟨F - 1, by omega⟩
      have ez : z = pAll T n (F' + 1) (tE T n q) st := by rw [hz]; exact if_pos y3
      have nx := tkR_nx hS hk (by omega)
      refine wq_aload_n (kk := 0) (q := 58) rfl rfl rfl ?_
      refine wq_callV (q := 61) (m' := m_Mo_goesOn) (R' := rm 2) (As := []) rfl rfl l_Mo_134 vm_Mo_goesOn rfl rfl rfl (Or.inl ⟨rfl, Nat.le_of_ble_eq_true rfl⟩) (Nat.le_of_ble_eq_true rfl) (Nat.le_of_ble_eq_true rfl) (Nat.le_refl _) (Nat.le_refl _) (Nat.le_of_ble_eq_true rfl) (Mo_goesOn_ok T n (tE T n q) h1 r nx.1 nx.2) rfl ?_
      rintro rv h2 r ⟨rfl, rfl, f2, y2⟩ -
      have s2 := rdR_f nx.1 f2 (by decide) (by decide)
      have m2 := mrR_f hM f2 (by decide) (by decide) (by decide) (by decide)
      refine wq_aload_n (kk := 0) (q := 62) rfl rfl rfl ?_
      refine wq_callV (q := 65) (m' := m_Mo_readLine) (R' := rm 10) (As := []) rfl rfl l_Mo_225 vm_Mo_readLine rfl rfl rfl (Or.inl ⟨rfl, Nat.le_of_ble_eq_true rfl⟩) (Nat.le_of_ble_eq_true rfl) (Nat.le_of_ble_eq_true rfl) (Nat.le_refl _) (Nat.le_refl _) (Nat.le_of_ble_eq_true rfl) (Mo_readLine_ok T n (tE T n q) st h2 r s2 y2 m2 hV) rfl ?_
      rintro rv h3 r ⟨rfl, f3, rfl, a3, b3⟩ -
      have g3 : f64 raF rrC h h3 := (hf.tr f2 (by decide) (by decide)).tr f3 (by decide) (by decide)
      refine wq_cif_ne (tgt := 48) (q := 68) rfl rfl rfl (fun c65 => ?_) (fun c65 => ?_)
      · skip
        obtain ⟨y4, m4⟩ := a3 c65
        obtain ⟨v1, v2, v3⟩ := pL_V s2.2.2.2.1 s2.2.2.2.2 hV c65
        have s4 : rdR T n (pL T n (tE T n q) st).2.2.1 h3 := by
          have w := rdR_f s2 f3 (by decide) (by decide)
          exact ⟨w.1, w.2.1, w.2.2.1, by omega, v3⟩
        exact ih F' (by omega) _ _ st h3 (by omega) (ez.trans (pAll_y c65)) g3 s4 y4 m4 v1
      · skip
        refine wq_iconst (n := 0) (q := 69) rfl rfl rfl ?_
        obtain ⟨a, b⟩ := b3 c65
        exact wq_zret rfl rfl (Nat.le_refl _) (Nat.le_refl _) (by omega) (raR.n (ez.trans (pAll_n c65)) c65 g3 a b)

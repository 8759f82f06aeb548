/-! LinkTimesModel: desk, line, spot -/
abbrev rrF : List Int := [13, 14, 15, 16, 17, 18, 19]
abbrev rrC : List Nat := [64, 67, 70, 71, 72]
def lnR (T : mF) (n : Int) (x : pX) (h : mH) (r : mR) : mP := fun rv h1 r1 => r1 = r ∧ f64 rrF rrC h h1 ∧ rv = some (vI (bI (x.1 = 0))) ∧ (x.1 = 0 → tkR T n x.2.2.1 h1 ∧ mrR T n h1 x.2.2.2) ∧ (x.1 ≠ 0 → h1 64 17 = x.1 ∧ h1 64 18 = x.2.1)
theorem lnR.n {T : mF} {n k pl q : Int} {st : pS} {x : pX} {h h1 : mH} {r : mR} (ex : x = (k, pl, q, st)) (hk : k ≠ 0) (f : f64 rrF rrC h h1) (a : h1 64 17 = k) (b : h1 64 18 = pl) : lnR T n x h r (some (vI 0)) h1 r := by
  subst ex
  exact ⟨rfl, f, by rw [bI_f hk], fun z => absurd z hk, fun _ => ⟨a, b⟩⟩
theorem lnR.y {T : mF} {n pl q : Int} {st : pS} {x : pX} {h h1 : mH} {r : mR} (ex : x = (0, pl, q, st)) (f : f64 rrF rrC h h1) (hk : tkR T n q h1) (hM : mrR T n h1 st) : lnR T n x h r (some (vI 1)) h1 r := by
  subst ex
  exact ⟨rfl, f, by rw [bI_t rfl], fun _ => ⟨hk, hM⟩, fun z => absurd rfl z⟩
theorem lnR.e {T : mF} {n k pl q : Int} {st : pS} {x : pX} {h h1 : mH} {r : mR} (ex : x = (k, pl, q, st)) (hk : k ≠ 0) (f : f64 rrF rrC h h1) (hp : h1 64 13 = pl) : lnR T n x h r (some (vI 0)) (erd h1 k) r := lnR.n ex hk ((f.up (by decide) (by decide)).up (by decide) (by decide)) erd_17 (by rw [erd_18]; exact hp)
theorem ch_xx {st : pS} {a b x y : Int} {z : pX} : ch st a x (ch st b y z) = ch st (xx a b) (xp a x y) z := by
  unfold xx xp
  by_cases e : a = 0
  · rw [ch_y e, if_pos e, if_pos e]
  · rw [ch_n e, if_neg e, if_neg e, ch_n e]
theorem xx_0 {a b : Int} (h : xx a b = 0) : a = 0 ∧ b = 0 := by
  unfold xx at h
  by_cases e : a = 0
  · rw [if_pos e] at h; exact ⟨e, h⟩
  · rw [if_neg e] at h; exact absurd h e
theorem mrR_i {T : mF} {n : Int} {h : mH} {R a b : mF} (x1 : h 64 19 = bI (0 < R 0)) (x2 : eM (h 67) R) (x3 : ∀ s, 0 ≤ s → s < R 1 → h 70 s = c32 T n (a s)) (x4 : ∀ s, 0 ≤ s → s < R 2 → h 71 s = c32 T n (b s)) : mrR T n h (R, a, b) := ⟨x1, x2, x3, x4⟩
theorem bI_p {P : Prop} (h : ¬ bI P = 0) : P := Classical.byContradiction (fun y => h (bI_f y))
theorem bI_q {P : Prop} (h : bI P = 0) : ¬ P := fun y => by rw [bI_t y] at h; exact absurd h (by decide)
theorem Mo_beginsX_ok (b c m : Int) (R : mF) (T : mF) (n p : Int) (h : mH) (r : mR) (hS : rdR T n p h) (hk : tkR T n p h) (h5 : tK T n p ≠ 5) (hb : b = 1 ∧ c < m ∨ b = 0 ∧ ¬ c < m) (r0 : 0 ≤ R 0) (h0 : R 0 = 0 → c < m) (hd : h 64 19 = bI (0 < R 0)) : Meets true (rm 3) m_Mo_begins [vR 64, vI b] h r (srQ (xR R c m) (tS T n p) [64] h r (fun h1 => tkR T n (tE T n p) h1 ∧ f64 goF [64] h h1)) := by
  have key := Mo_beginsL_ok (b = 1) T n p h r hS hk h5 _ hd
  have e : bI (b = 1) = b := by
    rcases hb with ⟨e, -⟩ | ⟨e, -⟩
    · rw [bI_t e, e]
    · rw [bI_f (by omega), e]
  have x : xx (5 - 5 * b) (6 - 6 * bI (0 < R 0)) = xR R c m := by
    unfold xR xx
    rcases hb with ⟨rfl, z⟩ | ⟨rfl, z⟩
    · by_cases y : R 0 = 0
      · rw [if_pos y, bI_f (by omega)]; rfl
      · rw [if_neg y, if_pos z, bI_t (by omega)]; rfl
    · have y : ¬ R 0 = 0 := fun q => z (h0 q)
      rw [if_neg y, if_neg z]; rfl
  rw [e, x] at key
  exact key
set_option maxRecDepth 100000 in
set_option maxHeartbeats 1000000 in
theorem Mo_readDesk_ok (T : mF) (n p : Int) (st : pS) (h : mH) (r : mR) (hS : rdR T n p h) (hk : tkR T n p h) (h5 : tK T n p ≠ 5) (hM : mrR T n h st) : Meets true (rm 8) m_Mo_readDesk [vR 64] h r (lnR T n (if 0 < st.1 0 then (3, tS T n p, 0, st) else pSpan T n p st) h r) := by
  have e13 := hk.1
  have nx := tkR_nx hS hk h5
  refine ⟨ok_Mo_readDesk, Nat.le_of_ble_eq_true rfl, ?_⟩
  refine wq_aload_n (kk := 0) (q := 1) rfl rfl rfl ?_
  refine wq_getI (kz := 19) (q := 4) rfl f_Mo_166 rfl rfl (Or.inl ⟨rfl, Nat.le_of_ble_eq_true rfl⟩) rfl rfl ?_
  rw [hM.1]
  refine wq_if_eq (tgt := 13) (q := 7) rfl rfl rfl (fun c4 => ?_) (fun c4 => ?_)
  · skip
    refine wq_aload_n (kk := 0) (q := 14) rfl rfl rfl ?_
    refine wq_callV (q := 17) (m' := m_Mo_goesOn) (R' := rm 2) (As := []) rfl rfl l_Mo_134 vm_Mo_goesOn rfl rfl rfl (Or.inl ⟨rfl, Nat.le_of_ble_eq_true rfl⟩) (Nat.le_of_ble_eq_true rfl) (Nat.le_of_ble_eq_true rfl) (Nat.le_refl _) (Nat.le_refl _) (Nat.le_of_ble_eq_true rfl) (Mo_goesOn_ok T n (tE T n p) _ r nx.1 nx.2) rfl ?_
    rintro rv h2 r ⟨rfl, rfl, f2, k2⟩ -
    refine wq_aload_n (kk := 0) (q := 18) rfl rfl rfl ?_
    refine wq_aload_n (kk := 0) (q := 19) rfl rfl rfl ?_
    refine wq_ldcs (j := 4) (q := 21) (by decide) (Nat.le_of_ble_eq_true rfl) rfl rfl ?_
    refine wq_iconst (n := 0) (q := 22) rfl rfl rfl ?_
    refine wq_iconst (n := 1) (q := 23) rfl rfl rfl ?_
    refine wq_sipush (n := 999) (q := 26) rfl rfl rfl ?_
    refine wq_callV (q := 29) (m' := m_Mo_after) (R' := rm 7) (As := [_, _, _, _]) rfl rfl l_Mo_172 vm_Mo_after rfl rfl rfl (Or.inl ⟨rfl, Nat.le_of_ble_eq_true rfl⟩) (Nat.le_of_ble_eq_true rfl) (Nat.le_of_ble_eq_true rfl) (Nat.le_refl _) (Nat.le_refl _) (Nat.le_of_ble_eq_true rfl) (Mo_after_ok 4 (by decide) 0 1 999 T n (tE T n p) h2 r (rdR_f nx.1 f2 (by decide) (by decide)) k2 (by omega)) rfl ?_
    rintro rv h3 r ⟨rfl, rfl, f3, b3, a3⟩ -
    refine wq_putZ (kz := 19) (q := 32) rfl f_Mo_166 rfl rfl rfl (Or.inl ⟨rfl, Nat.le_of_ble_eq_true rfl⟩) rfl rfl (by exact bI_z _) ?_
    refine wq_aload_n (kk := 0) (q := 33) rfl rfl rfl ?_
    refine wq_getI (kz := 19) (q := 36) rfl f_Mo_166 rfl rfl (Or.inl ⟨rfl, Nat.le_of_ble_eq_true rfl⟩) rfl rfl ?_
    rw [hup_s]
    have f4 : f64 rrF rrC h h3 := (f2.mono (by decide) (by decide)).tr f3 (by decide) (by decide)
    have es : (if 0 < st.1 0 then (3, tS T n p, 0, st) else pSpan T n p st) = ch st (xx (xW T n (tE T n p) 4) (xN T n (tE T n (tE T n p)) 1 999)) (xp (xW T n (tE T n p) 4) (tS T n (tE T n p)) (tS T n (tE T n (tE T n p)))) (0, 0, tE T n (tE T n (tE T n p)), up st.1 0 (c10 T n (tE T n (tE T n p))), st.2) := by
      rw [if_neg (bI_q c4)]
      unfold pSpan
      rw [ch_xx]
    by_cases z2 : xx (xW T n (tE T n p) 4) (xN T n (tE T n (tE T n p)) 1 999) = 0
    · obtain ⟨a, b⟩ := a3 z2
      have hv := xN_0 (xx_0 z2).2
      rw [bI_t z2]
      refine wq_zret rfl rfl (Nat.le_refl _) (Nat.le_refl _) (by omega) (lnR.y (es.trans (ch_y z2)) (f4.up (by decide) (by decide)) (tkR_f a (f64.rf.up (S := [19]) (C := [64]) (by decide) (by decide)) (by decide) (by decide) (by decide) (by decide)) (mrR_i ?_ ?_ (fun s s0 s1 => ?_) (fun s s0 s1 => ?_)))
      · rw [hup_s]
        have hp : 0 < up st.1 0 (c10 T n (tE T n (tE T n p))) 0 := by rw [up_s]; omega
        exact (bI_t hp).symm
      · rw [hup_ne (by decide), b, f2.1 67 (by decide)]
        exact eM_0 hM.2.1
      · rw [hup_ne (by decide), f3.1 70 (by decide), f2.1 70 (by decide)]
        rw [up_n (by decide)] at s1
        exact hM.2.2.1 s s0 s1
      · rw [hup_ne (by decide), f3.1 71 (by decide), f2.1 71 (by decide)]
        rw [up_n (by decide)] at s1
        exact hM.2.2.2 s s0 s1
    · obtain ⟨a, b⟩ := b3 z2
      rw [bI_f z2]
      exact wq_zret rfl rfl (Nat.le_refl _) (Nat.le_refl _) (by omega) (lnR.n (es.trans (ch_n z2)) z2 (f4.up (by decide) (by decide)) (by rw [hup_j (by decide)]; exact a) (by rw [hup_j (by decide)]; exact b))
  · skip
    refine wq_aload_n (kk := 0) (q := 8) rfl rfl rfl ?_
    refine wq_iconst (n := 3) (q := 9) rfl rfl rfl ?_
    refine wq_callV (q := 12) (m' := m_Mo_errs) (R' := rm 1) (As := [_]) rfl rfl l_Mo_130 vm_Mo_errs rfl rfl rfl (Or.inl ⟨rfl, Nat.le_of_ble_eq_true rfl⟩) (Nat.le_of_ble_eq_true rfl) (Nat.le_of_ble_eq_true rfl) (Nat.le_refl _) (Nat.le_refl _) (Nat.le_of_ble_eq_true rfl) (Mo_errs_ok 3 h r) rfl ?_
    rintro rv h2 r ⟨rfl, rfl, rfl⟩ -
    exact wq_zret rfl rfl (Nat.le_refl _) (Nat.le_refl _) (by omega) (lnR.e (if_pos (bI_p c4)) (by decide) f64.rf e13)
set_option maxRecDepth 100000 in
set_option maxHeartbeats 1000000 in
theorem Mo_readOneLine_ok (T : mF) (n p : Int) (st : pS) (h : mH) (r : mR) (hS : rdR T n p h) (hk : tkR T n p h) (h5 : tK T n p ≠ 5) (hM : mrR T n h st) (hV : PV T n st) : Meets true (rm 9) m_Mo_readOneLine [vR 64] h r (lnR T n (ch st (xR st.1 (st.1 2) 8) (tS T n p) (pLine T n p st)) h r) := by
  have e13 := hk.1
  have nx := tkR_nx hS hk h5
  have m2 := hM.2.1.n.2.1
  have b0 := hV.1.1
  have b2 := hV.1.2.2.1
  have bz : st.1 0 = 0 → st.1 2 < 8 := fun z => by have := (hV.1.2.2.2.2.2.1 z).2.1; omega
  refine ⟨ok_Mo_readOneLine, Nat.le_of_ble_eq_true rfl, ?_⟩
  refine wq_aload_n (kk := 0) (q := 1) rfl rfl rfl ?_
  refine wq_aload_n (kk := 0) (q := 2) rfl rfl rfl ?_
  refine wq_getF (q := 5) f_Mo_20 rfl rfl (Nat.le_of_ble_eq_true rfl) rfl rfl rfl ?_
  refine wq_iconst (n := 2) (q := 6) rfl rfl rfl ?_
  refine wq_iald (q := 7) rfl (Or.inl ⟨rfl, Nat.le_of_ble_eq_true rfl⟩) rfl rfl (by first | omega | (simp [hup]; omega)) (by first | omega | (simp [hup]; omega)) ?_
  refine wq_bipush (n := 8) (q := 9) rfl rfl rfl ?_
  refine wq_icmp_ge (tgt := 16) (q := 12) rfl rfl rfl (fun c9 => ?_) (fun c9 => ?_)
  · skip
    refine wq_iconst (n := 0) (q := 17) rfl rfl rfl ?_
    refine wq_callV (q := 20) (m' := m_Mo_begins) (R' := rm 3) (As := [_]) rfl rfl l_Mo_176 vm_Mo_begins rfl rfl rfl (Or.inl ⟨rfl, Nat.le_of_ble_eq_true rfl⟩) (Nat.le_of_ble_eq_true rfl) (Nat.le_of_ble_eq_true rfl) (Nat.le_refl _) (Nat.le_refl _) (Nat.le_of_ble_eq_true rfl) (Mo_beginsX_ok _ (st.1 2) 8 st.1 T n p h r hS hk h5 (by omega) b0.1 bz hM.1) rfl ?_
    rintro rv h1 r ⟨rfl, rfl, f1, y1, a1⟩ -
    refine wq_cif_eq (tgt := 40) (q := 23) rfl rfl rfl (fun c20 => ?_) (fun c20 => ?_)
    · skip
      refine wq_iconst (n := 0) (q := 41) rfl rfl rfl ?_
      first
      | (obtain ⟨a, b⟩ := y2 c37
         exact wq_zret rfl rfl (Nat.le_refl _) (Nat.le_refl _) (by omega) (lnR.n ((ch_y c20).trans (ch_n c37)) c37 ((f1.mono (by decide) (by decide)).tr f2 (by decide) (by decide)) a b))
      | (obtain ⟨a, b⟩ := y1 c20
         exact wq_zret rfl rfl (Nat.le_refl _) (Nat.le_refl _) (by omega) (lnR.n (ch_n c20) c20 (f1.mono (by decide) (by decide)) a b))
    · skip
      obtain ⟨k1, g1⟩ := a1 c20
      have hM1 := mrR_f hM g1 (by decide) (by decide) (by decide) (by decide)
      have m21 := hM1.2.1.n.2.1
      have hc := (xR_0 c20).2
      refine wq_aload_n (kk := 0) (q := 24) rfl rfl rfl ?_
      refine wq_aload_n (kk := 0) (q := 25) rfl rfl rfl ?_
      refine wq_getF (q := 28) f_Mo_33 rfl rfl (Nat.le_of_ble_eq_true rfl) rfl rfl rfl ?_
      refine wq_aload_n (kk := 0) (q := 29) rfl rfl rfl ?_
      refine wq_getF (q := 32) f_Mo_20 rfl rfl (Nat.le_of_ble_eq_true rfl) rfl rfl rfl ?_
      refine wq_iconst (n := 2) (q := 33) rfl rfl rfl ?_
      refine wq_iald (q := 34) rfl (Or.inl ⟨rfl, Nat.le_of_ble_eq_true rfl⟩) rfl rfl (by first | omega | (simp [hup]; omega)) (by first | omega | (simp [hup]; omega)) ?_
      refine wq_callV (q := 37) (m' := m_Mo_takesNew) (R' := rm 8) (As := [_, _]) rfl rfl l_Mo_180 vm_Mo_takesNew rfl rfl rfl (Or.inl ⟨rfl, Nat.le_of_ble_eq_true rfl⟩) (Nat.le_of_ble_eq_true rfl) (Nat.le_of_ble_eq_true rfl) (Nat.le_refl _) (Nat.le_refl _) (Nat.le_of_ble_eq_true rfl) (Mo_takes71_ok T n (tE T n p) st h1 r (rdR_f nx.1 g1 (by decide) (by decide)) k1 hM1 hV _ (by omega)) rfl ?_
      rintro rv h2 r ⟨rfl, rfl, f2, y2, a2⟩ -
      refine wq_cif_ne (tgt := 42) (q := 40) rfl rfl rfl (fun c37 => ?_) (fun c37 => ?_)
      · skip
        obtain ⟨k2, e2⟩ := a2 c37
        have m22 : h2 67 2 = st.1 2 := by rw [f2.1 67 (by decide)]; exact m21
        refine wq_aload_n (kk := 0) (q := 43) rfl rfl rfl ?_
        refine wq_getF (q := 46) f_Mo_20 rfl rfl (Nat.le_of_ble_eq_true rfl) rfl rfl rfl ?_
        refine wq_iconst (n := 2) (q := 47) rfl rfl rfl ?_
        refine wq_dup2 (q := 48) rfl rfl rfl rfl ?_
        refine wq_iald (q := 49) rfl (Or.inl ⟨rfl, Nat.le_of_ble_eq_true rfl⟩) rfl rfl (by first | omega | (simp [hup]; omega)) (by first | omega | (simp [hup]; omega)) ?_
        refine wq_iconst (n := 1) (q := 50) rfl rfl rfl ?_
        refine wq_iadd (q := 51) rfl rfl (by first | omega | (simp [hup]; omega)) (by first | omega | (simp [hup]; omega)) ?_
        refine wq_iast (q := 52) rfl (Or.inl ⟨rfl, Nat.le_of_ble_eq_true rfl⟩) rfl rfl (by first | omega | (simp [hup]; omega)) (by first | omega | (simp [hup]; omega)) ?_
        refine wq_iconst (n := 1) (q := 53) rfl rfl rfl ?_
        refine wq_zret rfl rfl (Nat.le_refl _) (Nat.le_refl _) (by omega) (lnR.y ((ch_y c20).trans (ch_y c37)) (((f1.mono (by decide) (by decide)).tr f2 (by decide) (by decide)).uc (by decide) (by decide)) (tkR_f k2 (f64.rf.uc (S := []) (C := [67]) (by decide) (by decide)) (by decide) (by decide) (by decide) (by decide)) (mrR_i ?_ ?_ (fun s s0 s1 => ?_) (fun s s0 s1 => ?_)))
        · rw [hup_i (by decide), f2.2 19 (by decide)]
          rw [up_n (by decide)]
          exact hM1.1
        · rw [hup_up, m22, f2.1 67 (by decide)]
          exact eM_k hM1.2.1 (Or.inl rfl)
        · rw [hup_ne (by decide), f2.1 70 (by decide)]
          rw [up_n (by decide)] at s1
          exact hM1.2.2.1 s s0 s1
        · rw [hup_ne (by decide), e2]
          rw [up_s] at s1
          rw [m21]
          by_cases e : s = st.1 2
          · subst e; rw [up_s, up_s]
          · rw [up_n e, up_n e]; exact hM1.2.2.2 s s0 (by omega)
      · skip
        refine wq_iconst (n := 0) (q := 41) rfl rfl rfl ?_
        first
        | (obtain ⟨a, b⟩ := y2 c37
           exact wq_zret rfl rfl (Nat.le_refl _) (Nat.le_refl _) (by omega) (lnR.n ((ch_y c20).trans (ch_n c37)) c37 ((f1.mono (by decide) (by decide)).tr f2 (by decide) (by decide)) a b))
        | (obtain ⟨a, b⟩ := y1 c20
           exact wq_zret rfl rfl (Nat.le_refl _) (Nat.le_refl _) (by omega) (lnR.n (ch_n c20) c20 (f1.mono (by decide) (by decide)) a b))
  · skip
    refine wq_iconst (n := 1) (q := 13) rfl rfl rfl ?_
    refine wq_goto (tgt := 17) rfl rfl ?_
    refine wq_callV (q := 20) (m' := m_Mo_begins) (R' := rm 3) (As := [_]) rfl rfl l_Mo_176 vm_Mo_begins rfl rfl rfl (Or.inl ⟨rfl, Nat.le_of_ble_eq_true rfl⟩) (Nat.le_of_ble_eq_true rfl) (Nat.le_of_ble_eq_true rfl) (Nat.le_refl _) (Nat.le_refl _) (Nat.le_of_ble_eq_true rfl) (Mo_beginsX_ok _ (st.1 2) 8 st.1 T n p h r hS hk h5 (by omega) b0.1 bz hM.1) rfl ?_
    rintro rv h1 r ⟨rfl, rfl, f1, y1, a1⟩ -
    refine wq_cif_eq (tgt := 40) (q := 23) rfl rfl rfl (fun c20 => ?_) (fun c20 => ?_)
    · skip
      refine wq_iconst (n := 0) (q := 41) rfl rfl rfl ?_
      first
      | (obtain ⟨a, b⟩ := y2 c37
         exact wq_zret rfl rfl (Nat.le_refl _) (Nat.le_refl _) (by omega) (lnR.n ((ch_y c20).trans (ch_n c37)) c37 ((f1.mono (by decide) (by decide)).tr f2 (by decide) (by decide)) a b))
      | (obtain ⟨a, b⟩ := y1 c20
         exact wq_zret rfl rfl (Nat.le_refl _) (Nat.le_refl _) (by omega) (lnR.n (ch_n c20) c20 (f1.mono (by decide) (by decide)) a b))
    · skip
      obtain ⟨k1, g1⟩ := a1 c20
      have hM1 := mrR_f hM g1 (by decide) (by decide) (by decide) (by decide)
      have m21 := hM1.2.1.n.2.1
      have hc := (xR_0 c20).2
      refine wq_aload_n (kk := 0) (q := 24) rfl rfl rfl ?_
      refine wq_aload_n (kk := 0) (q := 25) rfl rfl rfl ?_
      refine wq_getF (q := 28) f_Mo_33 rfl rfl (Nat.le_of_ble_eq_true rfl) rfl rfl rfl ?_
      refine wq_aload_n (kk := 0) (q := 29) rfl rfl rfl ?_
      refine wq_getF (q := 32) f_Mo_20 rfl rfl (Nat.le_of_ble_eq_true rfl) rfl rfl rfl ?_
      refine wq_iconst (n := 2) (q := 33) rfl rfl rfl ?_
      refine wq_iald (q := 34) rfl (Or.inl ⟨rfl, Nat.le_of_ble_eq_true rfl⟩) rfl rfl (by first | omega | (simp [hup]; omega)) (by first | omega | (simp [hup]; omega)) ?_
      refine wq_callV (q := 37) (m' := m_Mo_takesNew) (R' := rm 8) (As := [_, _]) rfl rfl l_Mo_180 vm_Mo_takesNew rfl rfl rfl (Or.inl ⟨rfl, Nat.le_of_ble_eq_true rfl⟩) (Nat.le_of_ble_eq_true rfl) (Nat.le_of_ble_eq_true rfl) (Nat.le_refl _) (Nat.le_refl _) (Nat.le_of_ble_eq_true rfl) (Mo_takes71_ok T n (tE T n p) st h1 r (rdR_f nx.1 g1 (by decide) (by decide)) k1 hM1 hV _ (by omega)) rfl ?_
      rintro rv h2 r ⟨rfl, rfl, f2, y2, a2⟩ -
      refine wq_cif_ne (tgt := 42) (q := 40) rfl rfl rfl (fun c37 => ?_) (fun c37 => ?_)
      · skip
        obtain ⟨k2, e2⟩ := a2 c37
        have m22 : h2 67 2 = st.1 2 := by rw [f2.1 67 (by decide)]; exact m21
        refine wq_aload_n (kk := 0) (q := 43) rfl rfl rfl ?_
        refine wq_getF (q := 46) f_Mo_20 rfl rfl (Nat.le_of_ble_eq_true rfl) rfl rfl rfl ?_
        refine wq_iconst (n := 2) (q := 47) rfl rfl rfl ?_
        refine wq_dup2 (q := 48) rfl rfl rfl rfl ?_
        refine wq_iald (q := 49) rfl (Or.inl ⟨rfl, Nat.le_of_ble_eq_true rfl⟩) rfl rfl (by first | omega | (simp [hup]; omega)) (by first | omega | (simp [hup]; omega)) ?_
        refine wq_iconst (n := 1) (q := 50) rfl rfl rfl ?_
        refine wq_iadd (q := 51) rfl rfl (by first | omega | (simp [hup]; omega)) (by first | omega | (simp [hup]; omega)) ?_
        refine wq_iast (q := 52) rfl (Or.inl ⟨rfl, Nat.le_of_ble_eq_true rfl⟩) rfl rfl (by first | omega | (simp [hup]; omega)) (by first | omega | (simp [hup]; omega)) ?_
        refine wq_iconst (n := 1) (q := 53) rfl rfl rfl ?_
        refine wq_zret rfl rfl (Nat.le_refl _) (Nat.le_refl _) (by omega) (lnR.y ((ch_y c20).trans (ch_y c37)) (((f1.mono (by decide) (by decide)).tr f2 (by decide) (by decide)).uc (by decide) (by decide)) (tkR_f k2 (f64.rf.uc (S := []) (C := [67]) (by decide) (by decide)) (by decide) (by decide) (by decide) (by decide)) (mrR_i ?_ ?_ (fun s s0 s1 => ?_) (fun s s0 s1 => ?_)))
        · rw [hup_i (by decide), f2.2 19 (by decide)]
          rw [up_n (by decide)]
          exact hM1.1
        · rw [hup_up, m22, f2.1 67 (by decide)]
          exact eM_k hM1.2.1 (Or.inl rfl)
        · rw [hup_ne (by decide), f2.1 70 (by decide)]
          rw [up_n (by decide)] at s1
          exact hM1.2.2.1 s s0 s1
        · rw [hup_ne (by decide), e2]
          rw [up_s] at s1
          rw [m21]
          by_cases e : s = st.1 2
          · subst e; rw [up_s, up_s]
          · rw [up_n e, up_n e]; exact hM1.2.2.2 s s0 (by omega)
      · skip
        refine wq_iconst (n := 0) (q := 41) rfl rfl rfl ?_
        first
        | (obtain ⟨a, b⟩ := y2 c37
           exact wq_zret rfl rfl (Nat.le_refl _) (Nat.le_refl _) (by omega) (lnR.n ((ch_y c20).trans (ch_n c37)) c37 ((f1.mono (by decide) (by decide)).tr f2 (by decide) (by decide)) a b))
        | (obtain ⟨a, b⟩ := y1 c20
           exact wq_zret rfl rfl (Nat.le_refl _) (Nat.le_refl _) (by omega) (lnR.n (ch_n c20) c20 (f1.mono (by decide) (by decide)) a b))

/-! LinkTimesModel: what is expected -/
theorem hup_up {h : mH} {i : Nat} {j v : Int} : hup h i j v i = up (h i) j v := by
  funext k
  unfold up
  by_cases e : k = j
  · subst e; rw [hup_s, if_pos rfl]
  · rw [hup_j e, if_neg e]
theorem tkR_nx {T : mF} {n p : Int} {h : mH} (hS : rdR T n p h) (hk : tkR T n p h) (h5 : tK T n p ≠ 5) : rdR T n (tE T n p) h ∧ h 64 14 = tE T n p := by
  obtain ⟨a, b, c, d, e⟩ := hS
  have q := tE_p (T := T) d e
  exact ⟨⟨a, b, c, q.1, q.2.1⟩, hk.2.2.1 h5⟩
theorem tkR_f {T : mF} {n p : Int} {h h1 : mH} {S : List Int} {C : List Nat} (hk : tkR T n p h) (f : f64 S C h h1) (a : (13 : Int) ∉ S) (b : (14 : Int) ∉ S) (c : (15 : Int) ∉ S) (d : (16 : Int) ∉ S) : tkR T n p h1 := by
  unfold tkR
  rw [f.2 13 a, f.2 14 b, f.2 15 c, f.2 16 d]
  exact hk
theorem erd_f {h : mH} {k : Int} : f64 [17, 18] [64] h (erd h k) := (f64.rf.up (by decide) (by decide)).up (by decide) (by decide)
theorem erd_17 {h : mH} {k : Int} : erd h k 64 17 = k := by unfold erd; rw [hup_j (by decide), hup_s]
theorem erd_18 {h : mH} {k : Int} : erd h k 64 18 = h 64 13 := by unfold erd; rw [hup_s]
abbrev erF : List Int := [13, 14, 15, 16, 17, 18]
/-- of a step of reading: fault k at place pl, or what Y says -/
def srQ (k pl : Int) (C : List Nat) (h : mH) (r : mR) (Y : mH → Prop) : mP := fun rv h1 r1 => rv = some (vI (bI (k = 0))) ∧ r1 = r ∧ f64 erF C h h1 ∧ (k ≠ 0 → h1 64 17 = k ∧ h1 64 18 = pl) ∧ (k = 0 → Y h1)
theorem srQ.n {k pl : Int} {C : List Nat} {h h1 : mH} {r : mR} {Y : mH → Prop} (hk : k ≠ 0) (f : f64 erF C h h1) (a : h1 64 17 = k) (b : h1 64 18 = pl) : srQ k pl C h r Y (some (vI 0)) h1 r := ⟨by rw [bI_f hk], rfl, f, fun _ => ⟨a, b⟩, fun z => absurd z hk⟩
theorem srQ.y {k pl : Int} {C : List Nat} {h h1 : mH} {r : mR} {Y : mH → Prop} (hk : k = 0) (f : f64 erF C h h1) (a : Y h1) : srQ k pl C h r Y (some (vI 1)) h1 r := ⟨by rw [bI_t hk], rfl, f, fun z => absurd hk z, fun _ => a⟩
theorem srQ.e {k pl : Int} {C : List Nat} {h h1 : mH} {r : mR} {Y : mH → Prop} (hk : k ≠ 0) (f : f64 erF C h h1) (hC : 64 ∈ C) (hp : h1 64 13 = pl) : srQ k pl C h r Y (some (vI 0)) (erd h1 k) r := srQ.n hk ((f.up hC (by decide)).up hC (by decide)) erd_17 (by rw [erd_18]; exact hp)
theorem xN_1 {T : mF} {n p lo hi : Int} (h : tK T n p ≠ 2) : xN T n p lo hi = 1 := if_neg h
theorem xN_4 {T : mF} {n p lo hi : Int} (h : tK T n p = 2) (z : ¬ (lo ≤ c10 T n p ∧ c10 T n p ≤ hi)) : xN T n p lo hi = 4 := by unfold xN; rw [if_pos h, if_neg z]
theorem xN_y {T : mF} {n p lo hi : Int} (h : tK T n p = 2) (z : lo ≤ c10 T n p ∧ c10 T n p ≤ hi) : xN T n p lo hi = 0 := by unfold xN; rw [if_pos h, if_pos z]
set_option maxRecDepth 100000 in
set_option maxHeartbeats 1000000 in
theorem Mo_laysN_ok (to lo hi : Int) (T : mF) (n p : Int) (h : mH) (r : mR) (hS : rdR T n p h) (hk : tkR T n p h) (t0 : 0 ≤ to ∧ to < 985) : Meets true (rm 3) m_Mo_lays [vR 64, vI to, vI lo, vI hi] h r (srQ (xN T n p lo hi) (tS T n p) [64, 67] h r (fun h1 => tkR T n (tE T n p) h1 ∧ h1 67 = up (h 67) to (c10 T n p))) := by
  have e13 := hk.1
  have e15 := hk.2.1
  have k2 := kR_2 (k := tK T n p)
  refine ⟨ok_Mo_lays, Nat.le_of_ble_eq_true rfl, ?_⟩
  refine wq_aload_n (kk := 0) (q := 1) rfl rfl rfl ?_
  refine wq_getI (kz := 15) (q := 4) rfl f_Mo_104 rfl rfl (Or.inl ⟨rfl, Nat.le_of_ble_eq_true rfl⟩) rfl rfl ?_
  refine wq_iconst (n := 3) (q := 5) rfl rfl rfl ?_
  refine wq_icmp_eq (tgt := 14) (q := 8) rfl rfl rfl (fun c5 => ?_) (fun c5 => ?_)
  · skip
    have hK : tK T n p = 2 := k2.1 (by omega)
    have e16 := hk.2.2.2 hK
    have nx := tkR_nx hS hk (by omega)
    refine wq_aload_n (kk := 0) (q := 15) rfl rfl rfl ?_
    refine wq_getI (kz := 16) (q := 18) rfl f_Mo_111 rfl rfl (Or.inl ⟨rfl, Nat.le_of_ble_eq_true rfl⟩) rfl rfl ?_
    refine wq_iload_n (kk := 2) (q := 19) rfl rfl rfl ?_
    refine wq_iload_n (kk := 3) (q := 20) rfl rfl rfl ?_
    refine wq_callS (q := 23) (m' := m_Mo_in) (R' := rm 1) (As := [_, _, _]) rfl rfl l_Mo_107 sm_Mo_in rfl (Nat.le_of_ble_eq_true rfl) (Nat.le_of_ble_eq_true rfl) (Nat.le_refl _) (Nat.le_refl _) (Nat.le_of_ble_eq_true rfl) (Mo_in_ok _ _ _ h r) rfl ?_
    rintro rv h r ⟨rfl, rfl, rfl⟩ -
    refine wq_cif_ne (tgt := 32) (q := 26) rfl rfl rfl (fun c23 => ?_) (fun c23 => ?_)
    · skip
      refine wq_aload_n (kk := 0) (q := 33) rfl rfl rfl ?_
      refine wq_getF (q := 36) f_Mo_20 rfl rfl (Nat.le_of_ble_eq_true rfl) rfl rfl rfl ?_
      refine wq_iload_n (kk := 1) (q := 37) rfl rfl rfl ?_
      refine wq_aload_n (kk := 0) (q := 38) rfl rfl rfl ?_
      refine wq_getI (kz := 16) (q := 41) rfl f_Mo_111 rfl rfl (Or.inl ⟨rfl, Nat.le_of_ble_eq_true rfl⟩) rfl rfl ?_
      refine wq_iast (q := 42) rfl (Or.inl ⟨rfl, Nat.le_of_ble_eq_true rfl⟩) rfl rfl (by first | omega | (simp [hup]; omega)) (by first | omega | (simp [hup]; omega)) ?_
      have f2 : f64 goF [64, 67] h (hup h 67 to (h 64 16)) := f64.rf.uc (by decide) (by decide)
      refine wq_aload_n (kk := 0) (q := 43) rfl rfl rfl ?_
      refine wq_callV (q := 46) (m' := m_Mo_goesOn) (R' := rm 2) (As := []) rfl rfl l_Mo_134 vm_Mo_goesOn rfl rfl rfl (Or.inl ⟨rfl, Nat.le_of_ble_eq_true rfl⟩) (Nat.le_of_ble_eq_true rfl) (Nat.le_of_ble_eq_true rfl) (Nat.le_refl _) (Nat.le_refl _) (Nat.le_of_ble_eq_true rfl) (Mo_goesOn_ok T n (tE T n p) _ r (rdR_f nx.1 f2 (by decide) (by decide)) (by rw [hup_i (by decide)]; exact nx.2)) rfl ?_
      rintro rv h2 r ⟨rfl, rfl, f3, k3⟩ -
      refine wq_iconst (n := 1) (q := 47) rfl rfl rfl ?_
      refine wq_zret rfl rfl (Nat.le_refl _) (Nat.le_refl _) (by omega) (srQ.y (xN_y hK (by rw [← e16]; assumption)) ((f2.tr f3 (fun _ z => z) (by decide)).mono (by decide) (by decide)) ⟨k3, ?_⟩)
      rw [f3.1 67 (by decide), hup_up, e16]
    · skip
      refine wq_aload_n (kk := 0) (q := 27) rfl rfl rfl ?_
      refine wq_iconst (n := 4) (q := 28) rfl rfl rfl ?_
      refine wq_callV (q := 31) (m' := m_Mo_errs) (R' := rm 1) (As := [_]) rfl rfl l_Mo_130 vm_Mo_errs rfl rfl rfl (Or.inl ⟨rfl, Nat.le_of_ble_eq_true rfl⟩) (Nat.le_of_ble_eq_true rfl) (Nat.le_of_ble_eq_true rfl) (Nat.le_refl _) (Nat.le_refl _) (Nat.le_of_ble_eq_true rfl) (Mo_errs_ok 4 h r) rfl ?_
      rintro rv h2 r ⟨rfl, rfl, rfl⟩ -
      refine wq_zret rfl rfl (Nat.le_refl _) (Nat.le_refl _) (by omega) ?_
      rw [xN_4 hK (by rw [← e16]; assumption)]
      exact srQ.e (by decide) f64.rf (by decide) e13
  · skip
    have hK : tK T n p ≠ 2 := fun z => by have := k2.2 z; omega
    refine wq_aload_n (kk := 0) (q := 9) rfl rfl rfl ?_
    refine wq_iconst (n := 1) (q := 10) rfl rfl rfl ?_
    refine wq_callV (q := 13) (m' := m_Mo_errs) (R' := rm 1) (As := [_]) rfl rfl l_Mo_130 vm_Mo_errs rfl rfl rfl (Or.inl ⟨rfl, Nat.le_of_ble_eq_true rfl⟩) (Nat.le_of_ble_eq_true rfl) (Nat.le_of_ble_eq_true rfl) (Nat.le_refl _) (Nat.le_refl _) (Nat.le_of_ble_eq_true rfl) (Mo_errs_ok 1 h r) rfl ?_
    rintro rv h2 r ⟨rfl, rfl, rfl⟩ -
    refine wq_zret rfl rfl (Nat.le_refl _) (Nat.le_refl _) (by omega) ?_
    rw [xN_1 hK]
    exact srQ.e (by decide) f64.rf (by decide) e13
/-- two steps -/
def xx (a b : Int) : Int := if a = 0 then b else a
def xp (a x y : Int) : Int := if a = 0 then y else x
theorem xW_1 {T : mF} {n p : Int} {j : Nat} (h : ¬ Wd T n p j) : xW T n p j = 1 := by show 1 - bI _ = 1; rw [bI_f h]; rfl
theorem Wd_5 {T : mF} {n p : Int} {j : Nat} (h : Wd T n p j) : tK T n p ≠ 5 := by rw [h.1]; decide
set_option maxRecDepth 100000 in
set_option maxHeartbeats 1000000 in
theorem Mo_after_ok (j : Nat) (hj : j < 11) (to lo hi : Int) (T : mF) (n p : Int) (h : mH) (r : mR) (hS : rdR T n p h) (hk : tkR T n p h) (t0 : 0 ≤ to ∧ to < 985) : Meets true (rm 7) m_Mo_after [vR 64, vR (sBase + j), vI to, vI lo, vI hi] h r (srQ (xx (xW T n p j) (xN T n (tE T n p) lo hi)) (xp (xW T n p j) (tS T n p) (tS T n (tE T n p))) [64, 67] h r (fun h1 => tkR T n (tE T n (tE T n p)) h1 ∧ h1 67 = up (h 67) to (c10 T n (tE T n p)))) := by
  have e13 := hk.1
  refine ⟨ok_Mo_after, Nat.le_of_ble_eq_true rfl, ?_⟩
  refine wq_aload_n (kk := 0) (q := 1) rfl rfl rfl ?_
  refine wq_aload_n (kk := 1) (q := 2) rfl rfl rfl ?_
  refine wq_callV (q := 5) (m' := m_Mo_isWord) (R' := rm 6) (As := [_]) rfl rfl l_Mo_137 vm_Mo_isWord rfl rfl rfl (Or.inl ⟨rfl, Nat.le_of_ble_eq_true rfl⟩) (Nat.le_of_ble_eq_true rfl) (Nat.le_of_ble_eq_true rfl) (Nat.le_refl _) (Nat.le_refl _) (Nat.le_of_ble_eq_true rfl) (Mo_isWord_ok j hj T n p h r hS hk) rfl ?_
  rintro rv h r ⟨rfl, rfl, rfl⟩ -
  refine wq_cif_ne (tgt := 14) (q := 8) rfl rfl rfl (fun c5 => ?_) (fun c5 => ?_)
  · skip
    have hW : Wd T n p j := by assumption
    have nx := tkR_nx hS hk (Wd_5 hW)
    refine wq_aload_n (kk := 0) (q := 15) rfl rfl rfl ?_
    refine wq_callV (q := 18) (m' := m_Mo_goesOn) (R' := rm 2) (As := []) rfl rfl l_Mo_134 vm_Mo_goesOn rfl rfl rfl (Or.inl ⟨rfl, Nat.le_of_ble_eq_true rfl⟩) (Nat.le_of_ble_eq_true rfl) (Nat.le_of_ble_eq_true rfl) (Nat.le_refl _) (Nat.le_refl _) (Nat.le_of_ble_eq_true rfl) (Mo_goesOn_ok T n (tE T n p) _ r nx.1 nx.2) rfl ?_
    rintro rv h2 r ⟨rfl, rfl, f2, k2⟩ -
    refine wq_aload_n (kk := 0) (q := 19) rfl rfl rfl ?_
    refine wq_iload_n (kk := 2) (q := 20) rfl rfl rfl ?_
    refine wq_iload_n (kk := 3) (q := 21) rfl rfl rfl ?_
    refine wq_iload (i := 4) (q := 23) rfl rfl rfl ?_
    refine wq_callV (q := 26) (m' := m_Mo_lays) (R' := rm 3) (As := [_, _, _]) rfl rfl l_Mo_141 vm_Mo_lays rfl rfl rfl (Or.inl ⟨rfl, Nat.le_of_ble_eq_true rfl⟩) (Nat.le_of_ble_eq_true rfl) (Nat.le_of_ble_eq_true rfl) (Nat.le_refl _) (Nat.le_refl _) (Nat.le_of_ble_eq_true rfl) (Mo_laysN_ok to lo hi T n (tE T n p) h2 r (rdR_f nx.1 f2 (by decide) (by decide)) k2 t0) rfl ?_
    rintro rv h3 r ⟨rfl, rfl, f3, b3, a3⟩ -
    rw [xW_0 hW]
    refine wq_zret rfl rfl (Nat.le_refl _) (Nat.le_refl _) (bI_z _) ⟨rfl, rfl, (f2.mono (by decide) (by decide)).tr f3 (fun _ z => z) (fun _ z => z), b3, fun z => ?_⟩
    have := a3 z
    rw [f2.1 67 (by decide)] at this
    exact this
  · skip
    refine wq_aload_n (kk := 0) (q := 9) rfl rfl rfl ?_
    refine wq_iconst (n := 1) (q := 10) rfl rfl rfl ?_
    refine wq_callV (q := 13) (m' := m_Mo_errs) (R' := rm 1) (As := [_]) rfl rfl l_Mo_130 vm_Mo_errs rfl rfl rfl (Or.inl ⟨rfl, Nat.le_of_ble_eq_true rfl⟩) (Nat.le_of_ble_eq_true rfl) (Nat.le_of_ble_eq_true rfl) (Nat.le_refl _) (Nat.le_refl _) (Nat.le_of_ble_eq_true rfl) (Mo_errs_ok 1 h r) rfl ?_
    rintro rv h2 r ⟨rfl, rfl, rfl⟩ -
    refine wq_zret rfl rfl (Nat.le_refl _) (Nat.le_refl _) (by omega) ?_
    rw [xW_1 (by assumption)]
    exact srQ.e (k := 1) (by decide) f64.rf (by decide) e13
set_option maxRecDepth 100000 in
set_option maxHeartbeats 1000000 in
theorem Mo_beginsL_ok (P : Prop) (T : mF) (n p : Int) (h : mH) (r : mR) (hS : rdR T n p h) (hk : tkR T n p h) (h5 : tK T n p ≠ 5) (D : Prop) (hd : h 64 19 = bI D) : Meets true (rm 3) m_Mo_begins [vR 64, vI (bI P)] h r (srQ (xx (5 - 5 * bI P) (6 - 6 * bI D)) (tS T n p) [64] h r (fun h1 => tkR T n (tE T n p) h1 ∧ f64 goF [64] h h1)) := by
  have e13 := hk.1
  have nx := tkR_nx hS hk h5
  refine ⟨ok_Mo_begins, Nat.le_of_ble_eq_true rfl, ?_⟩
  refine wq_iload_n (kk := 1) (q := 1) rfl rfl rfl ?_
  refine wq_if_ne (tgt := 10) (q := 4) rfl rfl rfl (fun c1 => ?_) (fun c1 => ?_)
  · skip
    refine wq_aload_n (kk := 0) (q := 11) rfl rfl rfl ?_
    refine wq_getI (kz := 19) (q := 14) rfl f_Mo_166 rfl rfl (Or.inl ⟨rfl, Nat.le_of_ble_eq_true rfl⟩) rfl rfl ?_
    rw [hd]
    refine wq_if_ne (tgt := 24) (q := 17) rfl rfl rfl (fun c14 => ?_) (fun c14 => ?_)
    · skip
      refine wq_aload_n (kk := 0) (q := 25) rfl rfl rfl ?_
      refine wq_callV (q := 28) (m' := m_Mo_goesOn) (R' := rm 2) (As := []) rfl rfl l_Mo_134 vm_Mo_goesOn rfl rfl rfl (Or.inl ⟨rfl, Nat.le_of_ble_eq_true rfl⟩) (Nat.le_of_ble_eq_true rfl) (Nat.le_of_ble_eq_true rfl) (Nat.le_refl _) (Nat.le_refl _) (Nat.le_of_ble_eq_true rfl) (Mo_goesOn_ok T n (tE T n p) _ r nx.1 nx.2) rfl ?_
      rintro rv h2 r ⟨rfl, rfl, f2, k2⟩ -
      refine wq_iconst (n := 1) (q := 29) rfl rfl rfl ?_
      refine wq_zret rfl rfl (Nat.le_refl _) (Nat.le_refl _) (by omega) (srQ.y ?_ (f2.mono (by decide) (by decide)) ⟨k2, f2⟩)
      rw [(bI_z P).resolve_left c1, (bI_z D).resolve_left c14]; rfl
    · skip
      refine wq_aload_n (kk := 0) (q := 18) rfl rfl rfl ?_
      refine wq_bipush (n := 6) (q := 20) rfl rfl rfl ?_
      refine wq_callV (q := 23) (m' := m_Mo_errs) (R' := rm 1) (As := [_]) rfl rfl l_Mo_130 vm_Mo_errs rfl rfl rfl (Or.inl ⟨rfl, Nat.le_of_ble_eq_true rfl⟩) (Nat.le_of_ble_eq_true rfl) (Nat.le_of_ble_eq_true rfl) (Nat.le_refl _) (Nat.le_refl _) (Nat.le_of_ble_eq_true rfl) (Mo_errs_ok 6 h r) rfl ?_
      rintro rv h2 r ⟨rfl, rfl, rfl⟩ -
      refine wq_zret rfl rfl (Nat.le_refl _) (Nat.le_refl _) (by omega) ?_
      rw [show xx (5 - 5 * bI P) (6 - 6 * bI D) = 6 by rw [(bI_z P).resolve_left c1, c14]; rfl]
      exact srQ.e (by decide) f64.rf (by decide) e13
  · skip
    refine wq_aload_n (kk := 0) (q := 5) rfl rfl rfl ?_
    refine wq_iconst (n := 5) (q := 6) rfl rfl rfl ?_
    refine wq_callV (q := 9) (m' := m_Mo_errs) (R' := rm 1) (As := [_]) rfl rfl l_Mo_130 vm_Mo_errs rfl rfl rfl (Or.inl ⟨rfl, Nat.le_of_ble_eq_true rfl⟩) (Nat.le_of_ble_eq_true rfl) (Nat.le_of_ble_eq_true rfl) (Nat.le_refl _) (Nat.le_refl _) (Nat.le_of_ble_eq_true rfl) (Mo_errs_ok 5 h r) rfl ?_
    rintro rv h2 r ⟨rfl, rfl, rfl⟩ -
    refine wq_zret rfl rfl (Nat.le_refl _) (Nat.le_refl _) (by omega) ?_
    rw [show xx (5 - 5 * bI P) (6 - 6 * bI D) = 5 by rw [c1]; rfl]
    exact srQ.e (by decide) f64.rf (by decide) e13

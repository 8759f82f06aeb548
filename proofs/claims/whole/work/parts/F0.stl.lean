/-! the law: still -/
theorem ls_lk : Cond.methodLink "LinkTimesLaw" 193 m_La_still.1 ∈ t0_ws := List.mem_filter.mpr ⟨by decide +kernel, rfl⟩
theorem ls_st : Cond.static m_La_still.1 ∈ t0_ws := List.mem_filter.mpr ⟨by decide +kernel, rfl⟩
theorem ls_g : GoodIn t0_ws (va_wsS "LinkTimesLaw" 193 m_La_still.1 lsW) := by
  have key : ∀ w, w ∈ t0_ws → w ∈ t0_ws ∧ ((w.onTables && w.keeps) = true ∨ ∃ ty, w = .arrayClass ty) := fun w hw => ⟨hw, good_of_word (List.mem_filter.mp hw).2⟩
  intro w hw
  rcases List.mem_append.mp hw with hw | hw
  · rcases List.mem_cons.mp hw with rfl | hw
    · exact key _ ls_lk
    rcases List.mem_cons.mp hw with rfl | hw
    · exact key _ ls_st
    rcases List.mem_cons.mp hw with rfl | hw
    · exact key _ ls_ini
    · cases hw
  · rcases List.mem_cons.mp hw with rfl | hw
    · exact key _ lsCd_in
    · exact key _ hw
section LS
variable {sc : mSc} {X : mX} {ls : mL} {h : mH} {r : mR} {u : mU}
theorem WPs.at {E : mE} {m : mM} {pc pc' : Nat} {st st' : List mV} {ls' : mL} {h' : mH} {r' : mR} {u' : mU} (h1 : WP E m (atX pc' ls' st' h' r' u') pc ls st h r u) (h2 : WPs sc E m X pc' ls' st' h' r' u') : WPs sc E m X pc ls st h r u := by
  refine WPs.step h1 ?_
  rintro _ _ _ _ _ _ ⟨rfl, rfl, rfl, rfl, rfl, rfl⟩
  exact h2
set_option maxHeartbeats 1000000 in
theorem ws_lst {pc : Nat} {x : Int} (hd : dc m_La_law pc = some (.invokestatic 193, 3)) (hu : u.1 + 1 ≤ 1112 ∧ u.2 + 6 ≤ 43168) (hcur : r.1 0 2 = some 2) (hn : 0 ≤ h 2 4 ∧ h 2 4 ≤ 120) (hs : 0 ≤ h 2 1 ∧ h 2 1 ≤ 10)
    (k : ∀ rv h' r', lsQ x h r rv h' r' → WPs sc (true, room_1) m_La_law X (pc + 3) ls (rv.toList ++ []) h' r' (u.1 + 1, u.2 + 6)) : WPs sc (true, room_1) m_La_law X pc ls [vR 86, vI x, vR 0] h r u := by
  intro G p l e s mid args below meth c Q ad0 hC hLw hX ad H locs lsA hag hn0 hR hS hL hst
  have hts : ∀ w ∈ t0_ws, w.before args s = true := hC.2.2.2.2.2.2.2.1
  have hsf := hC.2.2.2.2.2.2.2.2.1
  have cw : vx_CSW room_1 s args "LinkTimesLaw" 193 m_La_still.1 method_3_code 4 (some .int) lsH lsW lsR 1 6 3 := vx_cwSW 3 hts ls_g rfl rfl rfl ⟨by decide, by decide, rfl⟩ ⟨Nat.le_of_ble_eq_true rfl, Nat.le_of_ble_eq_true rfl⟩
  have hav : ∀ v ∈ ([vR 0, vI x, vR 86] : List mV), okV r.2 v := fun v hv => hst v (by
    rcases List.mem_cons.mp hv with rfl | hv
    · exact List.mem_cons_of_mem _ (List.mem_cons_of_mem _ List.mem_cons_self)
    rcases List.mem_cons.mp hv with rfl | hv
    · exact List.mem_cons_of_mem _ List.mem_cons_self
    rcases List.mem_cons.mp hv with rfl | hv
    · exact List.mem_cons_self
    · cases hv)
  refine call_back (X := fun a b c d e f => a = pc + 3 ∧ b = ls ∧ (∃ rv, lsQ x h r rv d e ∧ c = rv.toList ++ []) ∧ f = (u.1 + 1, u.2 + 6)) (R' := lsR) (rest := []) (E := (true, room_1)) (post := lsQ x h r) hC ?_ hag hn0 hS hL (fun v hv => absurd hv List.not_mem_nil)
    (vx_runSW (Ts := t0_ws) (cc := m_La_law.2.1) (nL := m_La_law.2.2.1) (own := "LinkTimesLaw") (As := ([vR 0, vI x, vR 86] : List mV).map (toV ad)) ⟨hC.1, hC.2.1, hC.2.2.2.1, hC.2.2.2.2.1, hts⟩ (lst_met hLw.2.2.1 G ad x hcur hn hs) cw ⟨lsP.blind, fun U hU hW => ⟨⟨rfl, hsf.warm hW hU hS, by rw [hU]; exact hR, hav⟩, hLw.2.2.2.1.warm hW hU hS⟩⟩ rfl rfl hL.1 (by simp) (cats_sum (rest := []) (Nat.le_of_ble_eq_true rfl)) (mdc hC hd) hu) rfl (fun rv h' r' hp _ => WP.exit ⟨rfl, rfl, ⟨rv, hp, rfl⟩, rfl⟩)
  rintro _ _ _ h' r' _ ⟨rfl, rfl, ⟨rv, hp, rfl⟩, rfl⟩
  exact k rv h' r' hp G p l e s mid args below meth c Q ad0 hC hLw hX
theorem WPs.forget {E : mE} {m : mM} {pc : Nat} {st : List mV} {ls' : mL} (hl : ls'.length = ls.length) (hf : ∀ (j : Nat) (v : mV), ls'[j]? = some (some v) → ls[j]? = some (some v)) (k : WPs sc E m X pc ls' st h r u) : WPs sc E m X pc ls st h r u := by
  intro G p l e s mid args below meth c Q ad0 hC hLw hX ad H locs lsA hag hn0 hR hS hL hst
  exact k G p l e s mid args below meth c Q ad0 hC hLw hX ad H locs lsA hag hn0 hR hS ⟨hL.1, hl.trans hL.2.1, hL.2.2.1, fun j v hj => hL.2.2.2 j v (hf j v hj)⟩ hst
theorem Cp.out {h : mH} {r : mR} (C : Cp h r) (v : Int) : Cp (hup h 86 0 v) r := by
  refine Cp_k C (C.1.fr (S := [86]) (fr.rf.up (by decide)) (by decide)) C.2.1 (fun i hi => hup_ne (by intro e; subst e; revert hi; decide)) (fun j _ => hup_i (by decide)) (fun j hj => hup_i (by decide)) ?_ (fun z => ?_)
  · rw [hup_i (by decide), hup_i (by decide)]; exact C.2.2.2.2.1.1
  · rw [hup_i (by decide)] at z
    rw [hup_i (by decide), hup_i (by decide)]; exact C.2.2.2.2.1.2.2 z
theorem co_still : clOK 64 10 198 m_Mo_still (rm 4) 1 ∧ clOK 64 10 199 m_Mo_thrown (rm 1) 0 := ⟨⟨l_La_198, vm_Mo_still, rfl, rfl, rfl, Nat.le_of_ble_eq_true rfl, Nat.le_of_ble_eq_true rfl, Nat.le_of_ble_eq_true rfl, rfl, rfl⟩, ⟨l_La_199, vm_Mo_thrown, rfl, rfl, rfl, Nat.le_of_ble_eq_true rfl, Nat.le_of_ble_eq_true rfl, Nat.le_of_ble_eq_true rfl, rfl, rfl⟩⟩
/-- the locals behind still -/
abbrev lsS (i b v : Int) : mL := [some (vR sScr), some (vR 0), some (vR 64), some (vR 86), some (vI i), some (vI b), some (vI v)]
set_option maxRecDepth 100000 in
set_option maxHeartbeats 1000000 in
theorem ws_cmp {i b v w : Int} (hb : b = w) (h0 : w = 0 → h 86 0 = v) (hw : h 64 0 = w) (hu : u.1 ≤ 1112 ∧ u.2 ≤ 43168) (k : WPs sc (true, room_1) m_La_law X 2172 (lsL i) [] h r u) : WPs sc (true, room_1) m_La_law X 2103 (lsS i b v) [] h r u := by
  subst hb
  refine WPs.row (wq_aload_n (x := 64) (q := 2104) (kk := 2) rfl rfl rfl) ?_
  refine ws_call (As := []) (rest := []) co_still.2 rfl hu (by decide) (Mo_thrown_ok h r) ?_
  rintro rv h' r' ⟨rfl, rfl, rfl⟩
  rw [hw]
  refine WPs.row (wq_iload (i := 5) (x := b) (q := 2109) rfl rfl rfl) ?_
  refine WPs.at (pc' := 2114) (ls' := (lsS i b v)) (st' := []) (h' := h') (r' := r') (u' := u) (wq_icmp_eq (q := 2112) (x := b) (y := b) (tgt := 2114) rfl rfl rfl (fun _ => WP.exit ⟨rfl, rfl, rfl, rfl, rfl, rfl⟩) (fun z => absurd rfl z)) ?_
  have fin : WPs sc (true, room_1) m_La_law X 2131 (lsS i b v) [] h' r' u := by
    refine WPs.row (wq_goto (tgt := 2172) rfl rfl) ?_
    refine WPs.forget (ls' := lsL i) rfl (fun j v hj => ?_) k
    match j, hj with
    | 0, hj => exact hj
    | 1, hj => exact hj
    | 2, hj => exact hj
    | 3, hj => exact hj
    | 4, hj => exact hj
    | 5, hj => cases hj
    | 6, hj => cases hj
  refine WPs.row (wq_iload (i := 5) (x := b) (q := 2116) rfl rfl rfl) ?_
  by_cases z : b = 0
  · subst z
    refine WPs.at (pc' := 2119) (ls' := (lsS i 0 v)) (st' := []) (h' := h') (r' := r') (u' := u) (wq_if_ne (q := 2119) (tgt := 2131) rfl rfl rfl (fun y => absurd rfl y) (fun _ => WP.exit ⟨rfl, rfl, rfl, rfl, rfl, rfl⟩)) ?_
    refine WPs.row (wq_aload_n (x := 86) (q := 2120) (kk := 3) rfl rfl rfl) ?_
    refine WPs.row (wq_iconst (n := 0) (q := 2121) rfl rfl rfl) ?_
    refine WPs.row (wq_lald (n := 1) (q := 2122) rfl (Or.inl ⟨rfl, Nat.le_of_ble_eq_true rfl⟩) rfl rfl (by omega) (by omega)) ?_
    rw [h0 rfl]
    refine WPs.row (wq_iload (i := 6) (x := v) (q := 2124) rfl rfl rfl) ?_
    refine WPs.row (wq_i2l (q := 2125) rfl rfl) ?_
    refine WPs.row (wq_lcmp (q := 2126) rfl rfl) ?_
    rw [if_neg (Int.lt_irrefl v), if_pos rfl]
    refine WPs.at (pc' := 2131) (ls' := (lsS i 0 v)) (st' := []) (h' := h') (r' := r') (u' := u) (wq_if_eq (q := 2129) (tgt := 2131) rfl rfl rfl (fun _ => WP.exit ⟨rfl, rfl, rfl, rfl, rfl, rfl⟩) (fun y => absurd rfl y)) ?_
    exact fin
  · refine WPs.at (pc' := 2131) (ls' := (lsS i b v)) (st' := []) (h' := h') (r' := r') (u' := u) (wq_if_ne (q := 2119) (tgt := 2131) rfl rfl rfl (fun _ => WP.exit ⟨rfl, rfl, rfl, rfl, rfl, rfl⟩) (fun y => absurd y z)) ?_
    exact fin
set_option maxRecDepth 100000 in
set_option maxHeartbeats 1000000 in
theorem ws_still {i : Int} (i0 : 0 ≤ i) (i9 : i + 6 ≤ sc.1) (hs : sc.1 ≤ 3072) (hu : u.1 + 1 ≤ 1112 ∧ u.2 + 6 ≤ 43168) (C : Cp h r) (k : ∀ h2 r2, CpS h2 r2 → WPs sc (true, room_1) m_La_law X 2172 (lsL i) [] h2 r2 (u.1 + 1, u.2 + 6)) : WPs sc (true, room_1) m_La_law X 2078 (lsL i) [] h r u := by
  refine WPs.row (wq_aload_n (x := 0) (q := 2079) (kk := 1) rfl rfl rfl) ?_
  refine ws_args rfl rfl i0 i9 hs [1] 2079 _ (by decide +kernel) (by decide) ?_
  refine WPs.row (wq_aload_n (x := 86) (q := 2086) (kk := 3) rfl rfl rfl) ?_
  refine ws_lst (x := scv sc (i + 1)) rfl hu C.1.2.2.2.1 C.1.1.1 C.1.1.2.1 ?_
  have step2 : ∀ (b : Int) (h1 : mH), h1 66 = h 66 → h1 64 = h 64 → Cp h1 r → (∀ v w, Stl (dN h 0) (scv sc (i + 1)) v w → b = w ∧ (w = 0 → h1 86 0 = v)) → WPs sc (true, room_1) m_La_law X 2089 (lsL i) [vI b] h1 r (u.1 + 1, u.2 + 6) := by
    intro b h1 e66 e64 C1 hb
    refine WPs.row (wq_istore (i := 5) (q := 2091) rfl rfl (Nat.le_of_ble_eq_true rfl) rfl) ?_
    refine WPs.row (wq_aload_n (x := 64) (q := 2092) (kk := 2) rfl rfl rfl) ?_
    refine ws_args (i := i) rfl rfl i0 i9 hs [1] 2092 _ (by decide +kernel) (by decide) ?_
    refine ws_call (As := [vI (scv sc (i + 1))]) (rest := []) co_still.1 rfl hu (by decide) (Mo_still_ok (dN h 0) _ h1 r (mI_k C.mj e66 (by rw [e64]))) ?_
    rintro rv h2 r2 ⟨rfl, v, w, rfl, hst, rfl⟩
    refine WPs.row (wq_istore (i := 6) (q := 2103) rfl rfl (Nat.le_of_ble_eq_true rfl) rfl) ?_
    obtain ⟨b1, b2⟩ := hb v w hst
    exact ws_cmp (i := i) (b := b) (v := v) (w := w) b1 (fun z => by rw [hup_i (by decide)]; exact b2 z) hup_s hu (k _ _ (Or.inl (C1.thr w)))
  rintro rv h1 r1 ⟨rfl, ⟨v, rfl, hv, rfl⟩ | ⟨rfl, hv, rfl⟩⟩
  · refine step2 0 _ (hup_ne (by decide)) (hup_ne (by decide)) (C.out v) (fun v' w hw => ?_)
    obtain ⟨a, b⟩ := hv.uniq hw
    exact ⟨a, fun _ => by rw [hup_s]; exact b rfl⟩
  · refine step2 1 h1 rfl rfl C (fun v' w hw => ?_)
    obtain ⟨a, b⟩ := (hv 0).uniq hw
    exact ⟨a, fun z => by omega⟩
end LS

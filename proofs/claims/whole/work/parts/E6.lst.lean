/-! the law's own still: a call that may throw, caught -/
def t_La_still : List (Nat × Instr × Nat) := [(0, .aload_n 2, 1), (1, .iconst 0, 1), (2, .aload_n 0, 1), (3, .iload_n 1, 1), (4, .invokevirtual 7, 3), (7, .i2l, 1), (8, .lastore, 1), (9, .goto 6, 3), (12, .astore_n 3, 1), (13, .iconst 1, 1), (14, .ireturn, 1), (15, .iconst 0, 1), (16, .ireturn, 1)]
def m_La_still : mM := (⟨"LinkTimesLaw", "still", "(LLinkTimes;I[J)I"⟩, method_3_code, 4, some .int, t_La_still)
theorem t_La_still_ok : ∀ q ∈ t_La_still, decode method_3_code q.1 = .ok q.2 := by
  intro q hq
  unfold t_La_still at hq
  simp only [List.mem_cons, List.not_mem_nil, or_false] at hq
  rcases hq with rfl | rfl | rfl | rfl | rfl | rfl | rfl | rfl | rfl | rfl | rfl | rfl | rfl <;> decide +kernel
abbrev lsH : List (Nat × Nat × Nat × Nat) := [(0, 9, 12, 13)]
abbrev lsCd : Cond := Cond.codeWith m_La_still.1 method_3_code 4 (some .int) lsH
theorem lsCd_in : lsCd ∈ t0_ws := List.mem_filter.mpr ⟨by decide +kernel, rfl⟩
theorem ls_cl : Cond.classLink "LinkTimesLaw" 13 nsE ∈ t0_ws := List.mem_filter.mpr ⟨by decide +kernel, rfl⟩
theorem ls_ini : Cond.initialized "LinkTimesLaw" ∈ t0_ws := List.mem_filter.mpr ⟨by decide +kernel, rfl⟩
def lsW : List Cond := lsCd :: t0_ws
def lsR : Room := { frames := 7, cells := 1, slots := 6, locals := 270 }
abbrev lsP (G : mG) (ad : Nat → Nat) (i : Int) (h : mH) (r : mR) : Array Value → State → Prop := fun a U => mPre G true ad [vR 0, vI i, vR 86] h r a U ∧ exF (mA G) U
abbrev lsQ (i : Int) (h : mH) (r : mR) : mP := fun rv h2 r2 => r2 = r ∧ ((∃ v, rv = some (vI 0) ∧ Stl (dN h 0) i v 0 ∧ h2 = hup h 86 0 v) ∨ (rv = some (vI 1) ∧ (∀ v, Stl (dN h 0) i v 1) ∧ h2 = h))
theorem lsP.blind {G : mG} {ad : Nat → Nat} {i : Int} {h : mH} {r : mR} : FrameBlind (lsP G ad i h r) := by
  intro a U gf mk hP
  exact ⟨mPre.blind a U gf mk hP.1, hP.2.same rfl rfl⟩
/-- up to the call -/
theorem ls_a (i : Int) (h : mH) (r : mR) : WP (true, lsR) m_La_still (fun pc ls st h1 r1 u => pc = 4 ∧ ls = [some (vR 0), some (vI i), some (vR 86), none] ∧ st = [vI i, vR 0, vI 0, vR 86] ∧ h1 = h ∧ r1 = r ∧ u = (0, 0)) 0 [some (vR 0), some (vI i), some (vR 86), none] [] h r (0, 0) := by
  refine wq_aload_n (kk := 2) (q := 1) rfl rfl rfl ?_
  refine wq_iconst (n := 0) (q := 2) rfl rfl rfl ?_
  refine wq_aload_n (kk := 0) (q := 3) rfl rfl rfl ?_
  refine wq_iload_n (kk := 1) (q := 4) rfl rfl rfl ?_
  exact WP.exit ⟨rfl, rfl, rfl, rfl, rfl, rfl⟩
/-- behind the call -/
theorem ls_b (i v : Int) (h : mH) (r : mR) (hv : Stl (dN h 0) i v 0) : WP (true, lsR) m_La_still (rt m_La_still lsR (lsQ i h r)) 7 [some (vR 0), some (vI i), some (vR 86), none] [vI v, vI 0, vR 86] h r (1, 6) := by
  refine wq_i2l (q := 8) rfl rfl ?_
  refine wq_last (q := 9) rfl (Or.inl ⟨rfl, Nat.le_of_ble_eq_true rfl⟩) rfl rfl (by omega) (by omega) ?_
  refine wq_goto (tgt := 15) rfl rfl ?_
  refine wq_iconst (n := 0) (q := 16) rfl rfl rfl ?_
  exact wq_iret rfl rfl (Nat.le_of_ble_eq_true rfl) (Nat.le_of_ble_eq_true rfl) ⟨rfl, Or.inl ⟨v, rfl, hv, rfl⟩⟩
/-- where it was caught -/
theorem ls_c (i : Int) (h : mH) (r : mR) (hv : ∀ v, Stl (dN h 0) i v 1) : WP (true, lsR) m_La_still (rt m_La_still lsR (lsQ i h r)) 13 [some (vR 0), some (vI i), some (vR 86), none] [] h r (1, 6) := by
  refine wq_iconst (n := 1) (q := 14) rfl rfl rfl ?_
  exact wq_iret rfl rfl (Nat.le_of_ble_eq_true rfl) (Nat.le_of_ble_eq_true rfl) ⟨rfl, Or.inr ⟨rfl, hv, rfl⟩⟩
theorem mLs.drop {ad : Nat → Nat} {b n : Nat} {ls : mL} {lsA ls' : Array Slot} {i : Nat} {v : Value} (h : mLs ad b ls lsA n) (hp : pvOK ls i = true) (hn : ls[i]? = some none) (h' : lv_has ls' n ((i, v) :: (lvl ad ls).filter (fun q => !(q.1 == i) && !(q.1 + 1 == i && q.2.category == 2)))) : mLs ad b ls ls' n := by
  refine ⟨h'.1, h.2.1, h'.2.1, fun j w hj => ?_⟩
  by_cases hij : j = i
  · subst hij
    rw [hn] at hj
    cases hj
  · refine ⟨h'.2.2 (j, toV ad w) (List.mem_cons_of_mem _ (List.mem_filter.mpr ⟨lvl_of hj, ?_⟩)), (h.2.2.2 _ _ hj).2⟩
    by_cases hc : j + 1 = i
    · have := pvOK_spec (ad := ad) hp hc hj
      simp [hij, this]
    · simp [hij, hc]
set_option maxHeartbeats 2000000 in
theorem lst_met {l : Launch} (hl : l.stackTraces = false) (G : mG) (ad : Nat → Nat) (i : Int) {h : mH} {r : mR} (hcur : r.1 0 2 = some 2) (hn : 0 ≤ h 2 4 ∧ h 2 4 ≤ 120) (hs : 0 ≤ h 2 1 ∧ h 2 1 ≤ 10) :
    Met l m_La_still.1 lsW lsR (lsP G ad i h r) (mQ G true ad r.2 (lsQ i h r)) 1 6 (mA G) := by
  refine va_MetW (cc := method_3_code) (maxL := 4) (ret := some .int) (hh := lsH) (ws' := t0_ws) (by decide) rfl ?_
  intro p e s mid args below meth c s₁ B hml hP
  obtain ⟨⟨rfl, hsf, hR, hok⟩, hex⟩ := hP
  have hts := atoms_spec (ws := lsW) B.pre
  have hts0 : ∀ w ∈ t0_ws, w.before (([vR 0, vI i, vR 86] : List mV).map (toV ad)).toArray s = true := fun w hw => hts w (List.mem_cons_of_mem _ hw)
  have hC : mCx G m_La_still p s mid (([vR 0, vI i, vR 86] : List mV).map (toV ad)).toArray meth c := ⟨B.exec, B.bytes, B.returns, hml, findClass_of_methodNamed B.named, B.notSynchronized, (name_of_methodNamed B.named B.method).1, hts0, hsf, t_La_still_ok⟩
  have htb : c.exceptionTable.toList = tableOf lsH := vx_table (x := m_La_still.1) B (hts _ List.mem_cons_self)
  rw [lg_entry_eq]
  refine ls_a i h r G p l e s mid _ below meth c (MQ below (mQ G true ad r.2 (lsQ i h r)) (([vR 0, vI i, vR 86] : List mV).map (toV ad)).toArray s 1 6 (mA G)) ad r.2 hC ?_ ad s.heap [] _ (fun _ _ => rfl) (Nat.le_refl _) hR va_S.rf (entry_ls (n := 4) (Nat.le_of_ble_eq_true rfl) hok) (fun v hv => absurd hv List.not_mem_nil)
  rintro pc' ls' st' h' r' u' ⟨rfl, rfl, rfl, rfl, rfl, rfl⟩ ad1 H1 locs1 lsA1 hag1 hn1 hR1 hS1 hL1 hst1
  have hm' := ok_Lt_still
  have hG : GoodIn t0_ws (mWs m_Lt_still) := fun w hw => ⟨by rcases List.mem_cons.mp hw with rfl | hw; exact hm'.2.1; exact hw, (good_t0 (m := m_Lt_still) hm' w hw).2⟩
  have cw : CallW lsR s (([vR 0, vI i, vR 86] : List mV).map (toV ad)).toArray "LinkTimesLaw" "LinkTimes" 7 m_Lt_still.1 m_Lt_still.2.1 4 (some .int) (mWs m_Lt_still) stR 1 6 1 :=
    ⟨callB_of 1 hts0 hG rfl rfl rfl (hts0 _ hm'.2.2.2.1) (hts0 _ l_La_7) ⟨hm'.2.2.2.2.1, hm'.2.2.2.2.2, rfl⟩ ⟨Nat.le_of_ble_eq_true rfl, Nat.le_of_ble_eq_true rfl⟩, hts0 _ vm_Lt_still.1, hts0 _ vm_Lt_still.2⟩
  have h0 : 0 < r'.2 := Nat.lt_of_lt_of_le (by decide) (hR1.2.2.2.1 rfl).1
  have hrun := vx_runV (l := l) (e := e) (below := below) (meth := meth) (locs := locs1) (cells := 0) (slots := 0) (R := lsR) (g := F0 mid 4 lsA1 (([vI i, vR 0, vI 0, vR 86] : List mV).map (toV ad1))) (rest := ([vI 0, vR 86] : List mV).map (toV ad1)) (Ts := t0_ws) (cc := m_La_still.2.1) (nL := 4) (own := "LinkTimesLaw") (C := "LinkTimes") (As := ([vI i] : List mV).map (toV ad1)) (b := ad1 0) ⟨hC.1, hC.2.1, hC.2.2.2.1, hC.2.2.2.2.1, hts0⟩ (still_met hl G ad1 i hcur hn hs) cw
    ⟨stP.blind, hR1.recv hsf h0 rfl rfl, fun U hU hW => ⟨⟨rfl, hsf.warm hW hU hS1, by rw [hU]; exact hR1, fun v hv => by
      rcases List.mem_cons.mp hv with rfl | hv
      · exact Or.inl h0
      · exact hst1 v (by rcases List.mem_cons.mp hv with rfl | hv; exact List.mem_cons_self; cases hv)⟩, hex.warm hW hU hS1⟩⟩ rfl rfl hL1.1 (by simp [toV]) (cats_sum (rest := [vI 0, vR 86]) (Nat.le_of_ble_eq_true rfl)) (mdc hC rfl) ⟨Nat.le_of_ble_eq_true rfl, Nat.le_of_ble_eq_true rfl⟩
  have hst2 : ∀ v ∈ ([vI 0, vR 86] : List mV), okV r'.2 v := fun v hv => hst1 v (List.mem_cons_of_mem _ (List.mem_cons_of_mem _ hv))
  intro T hT X
  rcases hrun T hT X with ⟨v, st₀, t, T', L, e0, X', hLo, e1, e2, ⟨⟨rv, h2, r2, ad2, hv, ⟨rfl, rfl, v', rfl, hsv⟩, hvok, hag2, hn2, hR2⟩, hz, hkeep⟩, stp⟩ | ⟨q, st₀, t, T', L, E, ce, e0, X', hLo, e1, e2, ⟨rfl, hsv, ⟨ad2, hag2, hR2⟩, hz, hkeep⟩, hce, hcv, hcl, stp⟩
  · cases hv
    rw [e0] at hz hkeep
    have hS2 : va_S (mA G) s.heap T'.heap (locs1 ++ L) := ⟨Nat.le_trans hS1.1 (by rw [e1]; exact hz), fun q h1 h2 => by rw [e1, hkeep q (Nat.lt_of_lt_of_le h1 hS1.1) h2]; exact hS1.2.1 q h1 h2, fun q hq => by
        rcases List.mem_append.mp hq with h | h
        · exact hS1.2.2 q h
        · exact hLo q h⟩
    have hag3 : mAg ad2 ad r2.2 := fun k hk => (hag2 k hk).trans (hag1 k hk)
    have kk := ls_b i v' h2 r2 hsv G p l e s mid _ below meth c (MQ below (mQ G true ad r2.2 (lsQ i h2 r2)) (([vR 0, vI i, vR 86] : List mV).map (toV ad)).toArray s 1 6 (mA G)) ad r2.2 hC (fun pc3 ls3 st3 h3 r3 u3 hx ad3 H3 locs3 lsA3 a3 n3 R3 S3 L3 o3 => rt_end (R := lsR) hC hx a3 n3 R3 S3 o3) ad2 T'.heap (locs1 ++ L) lsA1 hag3 (Nat.le_refl _) (by rw [e1]; exact hR2) hS2 (hL1.ag hag2 (Nat.le_refl _)) (fun w hw => by
      rcases List.mem_cons.mp hw with rfl | hw
      · exact hvok _ rfl
      · exact hst2 w hw)
    obtain ⟨t2, a1, b1⟩ := kk T' rfl X'
    refine ⟨t2, stp t2 ?_, b1⟩
    have hm : ([vI 0, vR 86] : List mV).map (toV ad1) = ([vI 0, vR 86] : List mV).map (toV ad2) := (map_ag hag2 hst2).symm
    rw [hm]
    exact a1
  · rw [e0] at hz hkeep
    have hS2 : va_S (mA G) s.heap T'.heap (locs1 ++ L) := ⟨Nat.le_trans hS1.1 (by rw [e1]; exact hz), fun q h1 h2 => by rw [e1, hkeep q (Nat.lt_of_lt_of_le h1 hS1.1) h2]; exact hS1.2.1 q h1 h2, fun q hq => by
        rcases List.mem_append.mp hq with h | h
        · exact hS1.2.2 q h
        · exact hLo q h⟩
    have hag3 : mAg ad2 ad r'.2 := fun k hk => (hag2 k hk).trans (hag1 k hk)
    have kx : vx_W p l e lsR s mid (([vR 0, vI i, vR 86] : List mV).map (toV ad)).toArray below meth c T'.heap (locs1 ++ L) (0 + 1) (0 + 6) (MQ below (mQ G true ad r'.2 (lsQ i h' r')) (([vR 0, vI i, vR 86] : List mV).map (toV ad)).toArray s 1 6 (mA G)) (F0 mid 4 lsA1 (([vI 0, vR 86] : List mV).map (toV ad1))) q := by
      refine vx_catch (own := "LinkTimesLaw") (name := nsE) (E := nsE) (ce := ce) hC.2.2.2.2.1 [] ⟨0, 9, 12, 13⟩ [] (by rw [htb]; rfl) (fun z hz => by cases hz) rfl (by decide) (hts0 _ ls_cl) (va_Nw.use (exB_ot _ (by decide +kernel)) (hex.2.2 (Cond.castable nsE nsE) (by decide +kernel))) (by rw [e1]; exact hce) hcv hcl ?_
      have hL2 := hL1.ag hag2 (Nat.le_refl _)
      refine lv_astore_n (k := 3) (i := 3) (nL := 4) hC.1 hC.2.1 (mdc hC rfl) rfl hL2.has (by decide) rfl (fun lsA2 hl2 => ?_)
      exact ls_c i h' r' hsv G p l e s mid _ below meth c (MQ below (mQ G true ad r'.2 (lsQ i h' r')) (([vR 0, vI i, vR 86] : List mV).map (toV ad)).toArray s 1 6 (mA G)) ad r'.2 hC (fun pc3 ls3 st3 h3 r3 u3 hx ad3 H3 locs3 lsA3 a3 n3 R3 S3 L3 o3 => rt_end (R := lsR) hC hx a3 n3 R3 S3 o3) ad2 T'.heap (locs1 ++ L) lsA2 hag3 (Nat.le_refl _) (by rw [e1]; exact hR2) hS2 (hL2.drop rfl rfl hl2) (fun w hw => absurd hw List.not_mem_nil)
    obtain ⟨t2, a1, b1⟩ := kx T' rfl X'
    exact ⟨t2, stp.trans a1, b1⟩

/-! still: its throw, its contract -/
abbrev nsE : String := "java/util/NoSuchElementException"
abbrev nsN : List String := ["java/lang/RuntimeException", "java/lang/Exception"]
def exB : List Cond := [.declares (Bundle.init0 "java/lang/RuntimeException"), .declares (Bundle.init0 "java/lang/Exception"), .declares (Bundle.init0 Bundle.tN), .castable nsE nsE]
theorem ns_bad : ∀ w ∈ (vx_at0 "LinkTimes" 353 nsE nsN).filter (fun w => !goodWord w), w ∈ exB := by decide +kernel
theorem ns_in : ∀ w ∈ (vx_at0 "LinkTimes" 353 nsE nsN).filter goodWord, w ∈ t0_ws := fun w h => List.mem_filter.mpr ⟨(show ∀ w ∈ (vx_at0 "LinkTimes" 353 nsE nsN).filter goodWord, w ∈ lw_tbl by decide +kernel) w h, (List.mem_filter.mp h).2⟩
theorem ns_good : ∀ w ∈ Cond.classLink "LinkTimes" 351 nsE :: Cond.initialized nsE :: vx_at0 "LinkTimes" 353 nsE nsN, vx_ot w = true := by decide +kernel
theorem ns_cl : Cond.classLink "LinkTimes" 351 nsE ∈ t0_ws := List.mem_filter.mpr ⟨by decide +kernel, rfl⟩
theorem ns_ini : Cond.initialized nsE ∈ t0_ws := List.mem_filter.mpr ⟨by decide +kernel, rfl⟩
theorem exB_tb : ∀ w ∈ exB, w ∈ lw_tbl := by decide +kernel
/-- what a throw needs of the world -/
def exF (A : Nat → Prop) (U : State) : Prop := vx_Zq Bundle.tN "UNASSIGNED_STACK" Bundle.steD A U U.heap ∧ vx_Zq Bundle.tN "SUPPRESSED_SENTINEL" Bundle.listD A U U.heap ∧ ∀ w ∈ exB, va_Nw w U
theorem exF.warm {A : Nat → Prop} {s U : State} {H : Heap} {locs : List Loc} (h : exF A s) (hW : s.WarmedH U.vm) (hU : U.heap = H) (hS : va_S A s.heap H locs) : exF A U := by
  subst hU
  refine ⟨(h.1.moved hW.alike).kept hS.2.1, (h.2.1.moved hW.alike).kept hS.2.1, fun w hw => ?_⟩
  have hz := h.2.2 w hw
  unfold exB at hw
  rcases List.mem_cons.mp hw with rfl | hw
  · exact va_Nw.warmD hW hz
  rcases List.mem_cons.mp hw with rfl | hw
  · exact va_Nw.warmD hW hz
  rcases List.mem_cons.mp hw with rfl | hw
  · exact va_Nw.warmD hW hz
  rcases List.mem_cons.mp hw with rfl | hw
  · exact va_Nw.warmC hW hz
  · cases hw
theorem exB_ot : ∀ w ∈ exB, w.onTables = true := by decide +kernel
theorem exF.same {A : Nat → Prop} {u U : State} (h : exF A u) (hv : U.vm = u.vm) (hH : U.heap = u.heap) : exF A U := by
  have ha : u.vm.Alike U.vm := by rw [hv]; exact Vm.Alike.refl u.vm
  exact ⟨by rw [hH]; exact h.1.moved ha, by rw [hH]; exact h.2.1.moved ha, fun w hw => va_Nw.same (exB_ot w hw) hv.symm (h.2.2 w hw)⟩
theorem mRep.grow {G : mG} {g : Bool} {ad : Nat → Nat} {h : mH} {r : mR} {H H1 : Heap} (hR : mRep G g ad h r H) (hq : ∀ q : Nat, q < H.size → H1[q]? = H[q]?) : mRep G g ad h r H1 := ⟨hR.1.kept (fun k q hk => hq _ (vx_lt hR.1 hk)), hR.2⟩
/-- a method's end, at the machine -/
theorem rt_end {G : mG} {g : Bool} {R : Room} {m : mM} {h' : mH} {r' : mR} {post : mP} {p : Program} {l : Launch} {e : Env} {s : State} {mid : MethodId} {args : Array Value} {below : List Frame} {meth : Method} {c : Code} {ad ad1 : Nat → Nat} {n0 pc' : Nat} {ls' : mL} {st' : List mV} {u' : mU} {H1 : Heap} {locs1 : List Loc} {lsA1 : Array Slot} {R0 : Room} (hC : mCx G m p s mid args meth c) (hx : rt m R post pc' ls' st' h' r' u') (hag1 : mAg ad1 ad n0) (hn1 : n0 ≤ r'.2) (hR1 : mRep G g ad1 h' r' H1) (hS1 : va_S (mA G) s.heap H1 locs1) (hst1 : ∀ v ∈ st', okV r'.2 v) :
    W p l e R0 s mid args below meth c H1 locs1 u'.1 u'.2 (MQ below (mQ G g ad n0 post) args s R.cells R.slots (mA G)) (F0 mid pc' lsA1 (st'.map (toV ad1))) := by
  have hlocks : meth.locks = false := hC.2.2.2.2.2.1
  have Bexec := hC.1
  have Bbytes := hC.2.1
  have Breturns := hC.2.2.1
  obtain ⟨hu1, hu2, hx⟩ := hx
  refine W.widen hu1 hu2 ?_
  rcases hx with ⟨hd, x, rfl, hrt, hp⟩ | ⟨hd, rfl, hrt, hp⟩ | ⟨hd, x, rfl, hrt, hp⟩
  · have hx : okI x := ok_hd hst1
    have hq : ∀ t : State, t.heap = H1 → s.WarmedH t.vm → mQ G g ad n0 post args s (.returned (some (.int (Int32.ofInt x)))) t := fun t ht _ =>
      ⟨⟨some (vI x), h', r', ad1, rfl, hp, fun v hv => by cases hv; exact hx, hag1, hn1, by rw [ht]; exact hR1⟩, hS1.F ht⟩
    obtain ⟨ty, hrt, hz⟩ := hrt
    exact W.zret (ty := ty) Bexec Bbytes (Breturns.trans hrt) hz hq hS1.2.2 (mdc hC hd)
  · exact W.vret Bexec Bbytes (Breturns.trans hrt) (fun t ht _ => ⟨⟨none, h', r', ad1, rfl, hp, (fun v hv => by cases hv), hag1, hn1, by rw [ht]; exact hR1⟩, hS1.F ht⟩) hS1.2.2 (mdc hC hd)
  · have hx : okJ x := ok_hd hst1
    exact W.lret Bexec Bbytes (Breturns.trans hrt) (fun t ht _ => ⟨⟨some (vJ x), h', r', ad1, rfl, hp, fun v hv => by cases hv; exact hx, hag1, hn1, by rw [ht]; exact hR1⟩, hS1.F ht⟩) hS1.2.2 (mdc hC hd)
abbrev stP (G : mG) (ad : Nat → Nat) (i : Int) (h : mH) (r : mR) : Array Value → State → Prop := fun a U => mPre G true ad [vR 0, vI i] h r a U ∧ exF (mA G) U
abbrev stQ (i : Int) (h : mH) (r : mR) : mP := fun rv h2 r2 => h2 = h ∧ r2 = r ∧ ∃ v, rv = some (vI v) ∧ Stl (dN h 0) i v 0
def stC (G : mG) (ad : Nat → Nat) (i : Int) (h : mH) (r : mR) : String → State → State → Prop := fun E st t => E = nsE ∧ (∀ v, Stl (dN h 0) i v 1) ∧ (∃ ad1, mAg ad1 ad r.2 ∧ mRep G true ad1 h r t.heap) ∧ va_F (mA G) st t
theorem stP.blind {G : mG} {ad : Nat → Nat} {i : Int} {h : mH} {r : mR} : FrameBlind (stP G ad i h r) := by
  intro a U gf mk hP
  exact ⟨mPre.blind a U gf mk hP.1, hP.2.same rfl rfl⟩
set_option maxHeartbeats 1000000 in
theorem still_met {l : Launch} (hl : l.stackTraces = false) (G : mG) (ad : Nat → Nat) (i : Int) {h : mH} {r : mR} (hcur : r.1 0 2 = some 2) (hn : 0 ≤ h 2 4 ∧ h 2 4 ≤ 120) (hs : 0 ≤ h 2 1 ∧ h 2 1 ≤ 10) :
    vx_Met l m_Lt_still.1 (mWs m_Lt_still) stR (stP G ad i h r) (mQ G true ad r.2 (stQ i h r)) (stC G ad i h r) 1 6 (mA G) := by
  refine vx_ofW (cc := m_Lt_still.2.1) (maxL := m_Lt_still.2.2.1) (ret := m_Lt_still.2.2.2.1) ok_Lt_still.1 rfl ?_
  intro p e s mid args below meth c s₁ B hml htab hP
  obtain ⟨⟨rfl, hsf, hR, hok⟩, hex⟩ := hP
  have hts := atoms_spec (ws := mWs m_Lt_still) B.pre
  have hts0 : ∀ w ∈ t0_ws, w.before (([vR 0, vI i] : List mV).map (toV ad)).toArray s = true := fun w hw => hts w (List.mem_cons_of_mem _ hw)
  have hC : mCx G m_Lt_still p s mid (([vR 0, vI i] : List mV).map (toV ad)).toArray meth c := ⟨B.exec, B.bytes, B.returns, hml, findClass_of_methodNamed B.named, B.notSynchronized, (name_of_methodNamed B.named B.method).1, hts0, hsf, ok_Lt_still.2.2.1⟩
  have hS : va_S (mA G) s.heap s.heap [] := va_S.rf
  rw [lg_entry_eq]
  refine Lt_stillE i h r hcur hn hs G p l e s mid _ below meth c (vx_MQ below (mQ G true ad r.2 (stQ i h r)) (stC G ad i h r) (([vR 0, vI i] : List mV).map (toV ad)).toArray s 1 6 (mA G)) ad r.2 hC ?_ ad s.heap [] _ (fun _ _ => rfl) (Nat.le_refl _) hR hS (entry_ls (n := 4) (Nat.le_of_ble_eq_true rfl) hok) (fun v hv => absurd hv List.not_mem_nil)
  intro pc' ls' st' h' r' u' hx ad1 H1 locs1 lsA1 hag1 hn1 hR1 hS1 hL1 hst1
  rcases hx with hx | ⟨rfl, -, rfl, rfl, rfl, rfl, hv⟩
  · exact vx_ret (rt_end (R := stR) hC hx hag1 hn1 hR1 hS1 hst1)
  · exact vx_throw0 (cc := m_Lt_still.2.1) (pc := 57) (own := "LinkTimes") (cls := nsE) (names := nsN) (ik := 351) (ic := 353) (A := mA G) (rest := []) B.exec B.bytes hl hC.2.2.2.2.1 (by decide +kernel) (by decide +kernel) (hts0 _ ns_cl) (hts0 _ ns_ini)
      (vx_hat (fun w hw => hts0 w (ns_in w hw)) ns_bad (fun w hw => va_Nw.use (exB_ot w hw) (hex.2.2 w hw))) ns_good hex.1 hex.2.1 hS1 (hL1.1.trans hml.symm)
      (mdc hC rfl) (mdc hC rfl) (mdc hC rfl) (mdc hC rfl) (fun x hx => (htab x hx).elim) (Nat.le_of_ble_eq_true rfl) (Nat.le_of_ble_eq_true rfl) (Nat.le_of_ble_eq_true rfl) (Nat.le_of_ble_eq_true rfl) B.notSynchronized
      (fun t ha hz hq => ⟨rfl, hv, ⟨ad1, hag1, hR1.grow hq⟩, ⟨Nat.le_trans hS1.1 hz, fun q h1 h2 => by rw [hq q (Nat.lt_of_lt_of_le h1 hS1.1)]; exact hS1.2.1 q h1 h2⟩⟩)
      hS1.2.2 (Nat.le_of_ble_eq_true rfl) (Nat.le_of_ble_eq_true rfl)

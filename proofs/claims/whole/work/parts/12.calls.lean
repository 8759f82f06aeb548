/-! calls: a method's contract is what WP says from its entry -/
def ent : List mV → mL
  | [] => []
  | v :: vs => match v with
    | .inr (.inl _) => some v :: none :: ent vs
    | _ => some v :: ent vs
def entry (n : Nat) (av : List mV) : mL := ent av ++ List.replicate (n - (ent av).length) none
abbrev mP : Type := Option mV → mH → mR → Prop
/-- a method's end -/
def rt (m : mM) (R : Room) (post : mP) : mX := fun pc _ st h r u => u.1 ≤ R.cells ∧ u.2 ≤ R.slots ∧
  ((dc m pc = some (.ireturn, 1) ∧ ∃ x, st = [vI x] ∧ (∃ ty, m.2.2.2.1 = some ty ∧ narrow ty (.int (Int32.ofInt x)) = .int (Int32.ofInt x)) ∧ post (some (vI x)) h r) ∨
   (dc m pc = some (.return_, 1) ∧ st = [] ∧ m.2.2.2.1 = none ∧ post none h r) ∨
   (dc m pc = some (.lreturn, 1) ∧ ∃ x, st = [vJ x] ∧ m.2.2.2.1 = some .long ∧ post (some (vJ x)) h r))
def Meets (g : Bool) (R : Room) (m : mM) (av : List mV) (h : mH) (r : mR) (post : mP) : Prop :=
  mOK m ∧ (ent av).length ≤ m.2.2.1 ∧ WP (g, R) m (rt m R post) 0 (entry m.2.2.1 av) [] h r (0, 0)
theorem ent_sl (ad : Nat → Nat) : ∀ (av : List mV), (ent av).length = (lg_sl (av.map (toV ad))).length ∧ ∀ (j : Nat) (v : mV), (ent av)[j]? = some (some v) → v ∈ av ∧ (lg_sl (av.map (toV ad)))[j]? = some (.val (toV ad v))
  | [] => ⟨rfl, fun j v h => by simp [ent] at h⟩
  | v :: vs => by
    obtain ⟨h1, h2⟩ := ent_sl ad vs
    have key : ∀ (w : mV), (toV ad w).category = 1 ∨ (toV ad w).category = 2 := fun w => lv_cat _
    rcases v with x | x | x
    · refine ⟨by simp [ent, lg_sl, toV, Value.category] at h1 ⊢; exact h1, fun j w hj => ?_⟩
      cases j with
      | zero => simp [ent] at hj; subst hj; exact ⟨List.mem_cons_self, by simp [lg_sl, toV, Value.category]⟩
      | succ j =>
        obtain ⟨a, b⟩ := h2 j w (by simpa [ent] using hj)
        exact ⟨List.mem_cons_of_mem _ a, by simpa [lg_sl, toV, Value.category] using b⟩
    · refine ⟨by simp [ent, lg_sl, toV, Value.category] at h1 ⊢; exact h1, fun j w hj => ?_⟩
      match j, hj with
      | 0, hj => simp [ent] at hj; subst hj; exact ⟨List.mem_cons_self, by simp [lg_sl, toV, Value.category]⟩
      | 1, hj => simp [ent] at hj
      | j + 2, hj =>
        obtain ⟨a, b⟩ := h2 j w (by simpa [ent] using hj)
        exact ⟨List.mem_cons_of_mem _ a, by simpa [lg_sl, toV, Value.category] using b⟩
    · have hc : (toV ad (.inr (.inr x))).category = 1 := by cases x <;> rfl
      refine ⟨by simp [ent, lg_sl, hc] at h1 ⊢; exact h1, fun j w hj => ?_⟩
      cases j with
      | zero => simp [ent] at hj; subst hj; exact ⟨List.mem_cons_self, by simp [lg_sl, hc]⟩
      | succ j =>
        obtain ⟨a, b⟩ := h2 j w (by simpa [ent] using hj)
        exact ⟨List.mem_cons_of_mem _ a, by simpa [lg_sl, hc] using b⟩
theorem entry_ls {ad : Nat → Nat} {b n : Nat} {av : List mV} (hn : (ent av).length ≤ n) (hv : ∀ v ∈ av, okV b v) : mLs ad b (entry n av) ((lg_sl (av.map (toV ad)) ++ List.replicate (n - (lg_sl (av.map (toV ad))).length) Slot.unset).toArray) n := by
  obtain ⟨e1, e2⟩ := ent_sl ad av
  obtain ⟨l1, l2, -⟩ := lv_entry (av.map (toV ad)) (n := n) (by rw [← e1]; exact hn)
  refine ⟨l1, by unfold entry; simp; omega, l2, fun j v hj => ?_⟩
  unfold entry at hj
  by_cases hl : j < (ent av).length
  · rw [List.getElem?_append_left hl] at hj
    obtain ⟨a, c⟩ := e2 j v hj
    refine ⟨?_, hv v a⟩
    rw [List.getElem?_toArray, List.getElem?_append_left (by rw [← e1]; exact hl)]
    exact c
  · rw [List.getElem?_append_right (by omega), List.getElem?_replicate] at hj
    split at hj
    · cases hj
    · cases hj
/-- what a caller gets -/
def mQ (G : mG) (g : Bool) (ad : Nat → Nat) (n0 : Nat) (post : mP) : Array Value → State → Outcome → State → Prop := fun _ st oc t =>
  (∃ (rv : Option mV) (h' : mH) (r' : mR) (ad' : Nat → Nat), oc = .returned (rv.map (toV ad')) ∧ post rv h' r' ∧ (∀ v, rv = some v → okV r'.2 v) ∧ mAg ad' ad n0 ∧ n0 ≤ r'.2 ∧ mRep G g ad' h' r' t.heap) ∧ va_F (mA G) st t
def mPre (G : mG) (g : Bool) (ad : Nat → Nat) (av : List mV) (h : mH) (r : mR) : Array Value → State → Prop := va_Pc (av.map (toV ad)) (fun U => mSf G U ∧ mRep G g ad h r U.heap ∧ ∀ v ∈ av, okV r.2 v)
def mWs (m : mM) : List Cond := Cond.code m.1 m.2.1 m.2.2.1 m.2.2.2.1 :: t0_ws
set_option maxHeartbeats 1000000 in
theorem Meets.met {g : Bool} {R : Room} {m : mM} {av : List mV} {h : mH} {r : mR} {post : mP} (hM : Meets g R m av h r post) (l : Launch) (G : mG) (ad : Nat → Nat) :
    Met l m.1 (mWs m) R (mPre G g ad av h r) (mQ G g ad r.2 post) R.cells R.slots (mA G) := by
  obtain ⟨⟨k1, k2, k3, k4, k5⟩, hn, hW⟩ := hM
  refine Met.ofW (cc := m.2.1) (maxL := m.2.2.1) (ret := m.2.2.2.1) k1 rfl ?_
  intro p e s mid args below meth c s₁ B hml hv
  obtain ⟨rfl, hsf, hR, hok⟩ := hv
  have hts := atoms_spec (ws := mWs m) B.pre
  have hts0 : ∀ w ∈ t0_ws, w.before (av.map (toV ad)).toArray s = true := fun w hw => hts w (List.mem_cons_of_mem _ hw)
  have hC : mCx G m p s mid (av.map (toV ad)).toArray meth c := ⟨B.exec, B.bytes, B.returns, hml, findClass_of_methodNamed B.named, B.notSynchronized, (name_of_methodNamed B.named B.method).1, hts0, hsf, k3⟩
  have hS : va_S (mA G) s.heap s.heap [] := va_S.rf
  rw [lg_entry_eq]
  refine hW G p l e s mid _ below meth c (MQ below (mQ G g ad r.2 post) (av.map (toV ad)).toArray s R.cells R.slots (mA G)) ad r.2 hC ?_ ad s.heap [] _ (fun _ _ => rfl) (Nat.le_refl _) hR hS (entry_ls hn hok) (fun v hv => absurd hv List.not_mem_nil)
  intro pc' ls' st' h' r' u' hx ad1 H1 locs1 lsA1 hag1 hn1 hR1 hS1 hL1 hst1
  have hlocks : meth.locks = false := B.notSynchronized
  obtain ⟨hu1, hu2, hx⟩ := hx
  refine W.widen hu1 hu2 ?_
  rcases hx with ⟨hd, x, rfl, hrt, hp⟩ | ⟨hd, rfl, hrt, hp⟩ | ⟨hd, x, rfl, hrt, hp⟩
  · have hx : okI x := ok_hd hst1
    have hq : ∀ t : State, t.heap = H1 → s.WarmedH t.vm → mQ G g ad r.2 post (av.map (toV ad)).toArray s (.returned (some (.int (Int32.ofInt x)))) t := fun t ht _ =>
      ⟨⟨some (vI x), h', r', ad1, rfl, hp, fun v hv => by cases hv; exact hx, hag1, hn1, by rw [ht]; exact hR1⟩, hS1.F ht⟩
    obtain ⟨ty, hrt, hz⟩ := hrt
    exact W.zret (ty := ty) B.exec B.bytes (B.returns.trans hrt) hz hq hS1.2.2 (mdc hC hd)
  · exact W.vret B.exec B.bytes (B.returns.trans hrt) (fun t ht _ => ⟨⟨none, h', r', ad1, rfl, hp, (fun v hv => by cases hv), hag1, hn1, by rw [ht]; exact hR1⟩, hS1.F ht⟩) hS1.2.2 (mdc hC hd)
  · have hx : okJ x := ok_hd hst1
    exact W.lret B.exec B.bytes (B.returns.trans hrt) (fun t ht _ => ⟨⟨some (vJ x), h', r', ad1, rfl, hp, fun v hv => by cases hv; exact hx, hag1, hn1, by rw [ht]; exact hR1⟩, hS1.F ht⟩) hS1.2.2 (mdc hC hd)
theorem mPre.blind {G : mG} {g : Bool} {ad : Nat → Nat} {av : List mV} {h : mH} {r : mR} : FrameBlind (mPre G g ad av h r) := by
  intro a U gf mk hP
  obtain ⟨h1, h2, h3, h4⟩ := hP
  exact ⟨h1, h2.same rfl rfl, h3, h4⟩
theorem good_t0 {m m' : mM} (hm : mOK m') : GoodIn (mWs m) (mWs m') := by
  intro w hw
  have hw0 : w ∈ t0_ws := by
    rcases List.mem_cons.mp hw with rfl | hw
    · exact hm.2.1
    · exact hw
  exact ⟨List.mem_cons_of_mem _ hw0, good_of_word (List.mem_filter.mp hw0).2⟩
section CL
variable {E : mE} {m : mM} {X : mX} {pc q : Nat} {ls : mL} {st : List mV} {h : mH} {r : mR} {u : mU}
theorem toV_ag {ad ad' : Nat → Nat} {b : Nat} {v : mV} (ha : mAg ad' ad b) (hv : okV b v) : toV ad' v = toV ad v := by
  rcases v with x | x | _ | t
  · rfl
  · rfl
  · rfl
  · show Value.ref (ad' t) = Value.ref (ad t)
    rw [ha t hv]
theorem map_ag {ad ad' : Nat → Nat} {b : Nat} {st : List mV} (ha : mAg ad' ad b) (hv : ∀ v ∈ st, okV b v) : st.map (toV ad') = st.map (toV ad) := List.map_congr_left fun v h => toV_ag ha (hv v h)
theorem mLs.ag {ad ad' : Nat → Nat} {b b' n : Nat} {ls : mL} {lsA : Array Slot} (hL : mLs ad b ls lsA n) (ha : mAg ad' ad b) (hb : b ≤ b') : mLs ad' b' ls lsA n :=
  ⟨hL.1, hL.2.1, hL.2.2.1, fun j v hj => ⟨by rw [toV_ag ha (hL.2.2.2 j v hj).2]; exact (hL.2.2.2 j v hj).1, (hL.2.2.2 j v hj).2.mono hb⟩⟩
/-- behind any call -/
theorem call_back {G : mG} {p : Program} {l : Launch} {e : Env} {s : State} {mid : MethodId} {args : Array Value} {below : List Frame} {meth : Method} {c : Code} {Q : State → Prop} {ad0 : Nat → Nat} {n0 : Nat} (hC : mCx G m p s mid args meth c) (hX : ∀ pc' ls' st' h' r' u', X pc' ls' st' h' r' u' → mAt G E m p l e s mid args below meth c Q ad0 n0 pc' ls' st' h' r' u')
    {ad : Nat → Nat} {H : Heap} {locs : List Loc} {lsA : Array Slot} (hag : mAg ad ad0 n0) (hn : n0 ≤ r.2) (hS : va_S (mA G) s.heap H locs) (hL : mLs ad r.2 ls lsA m.2.2.1) {rest : List mV} (hst : ∀ v ∈ rest, okV r.2 v) {R' : Room} {post : mP} {st0 : List Value} {a : Array Value}
    (hr : va_Run p l e E.2 s mid args below meth c H locs u.1 u.2 R'.cells R'.slots (F0 mid pc lsA st0) (rest.map (toV ad)) (mQ G E.1 ad r.2 post a) (mA G)) (hq : pc + 3 = q)
    (k : ∀ rv h' r', post rv h' r' → r.2 ≤ r'.2 → WP E m X q ls (rv.toList ++ rest) h' r' (u.1 + R'.cells, u.2 + R'.slots)) : W p l e E.2 s mid args below meth c H locs u.1 u.2 Q (F0 mid pc lsA st0) := by
  intro T hT X0
  obtain ⟨v, st₀, t, T', L, h0, X', hLo, e1, e2, ⟨⟨rv, h', r', ad', hv, hp, hvok, hag', hn', hR'⟩, hz, hkeep⟩, stp⟩ := hr T hT X0
  have hv' : v = rv.map (toV ad') := by cases hv; rfl
  subst hv'
  rw [h0] at hz hkeep
  have hS' : va_S (mA G) s.heap T'.heap (locs ++ L) := ⟨Nat.le_trans hS.1 (by rw [e1]; exact hz), fun q h1 h2 => by rw [e1, hkeep q (Nat.lt_of_lt_of_le h1 hS.1) h2]; exact hS.2.1 q h1 h2, fun q hq => by
      rcases List.mem_append.mp hq with h | h
      · exact hS.2.2 q h
      · exact hLo q h⟩
  have hag2 : mAg ad' ad0 n0 := fun i hi => (hag' i (hi.elim (fun z => Or.inl (Nat.lt_of_lt_of_le z hn)) Or.inr)).trans (hag i hi)
  have hstk : (rv.map (toV ad')).toList ++ rest.map (toV ad) = (rv.toList ++ rest).map (toV ad') := by
    rw [List.map_append, map_ag hag' hst]
    cases rv <;> rfl
  have kk := k rv h' r' hp hn' G p l e s mid args below meth c Q ad0 n0 hC hX ad' T'.heap (locs ++ L) lsA hag2 (Nat.le_trans hn hn') (by rw [e1]; exact hR') hS' (hL.ag hag' hn') (fun w hw => by
    rcases List.mem_append.mp hw with h | h
    · cases rv with
      | none => simp at h
      | some x => simp at h; subst h; exact hvok _ rfl
    · exact (hst w h).mono hn')
  obtain ⟨t2, a1, b1⟩ := kk T' rfl X'
  refine ⟨t2, stp t2 ?_, b1⟩
  rw [hstk]
  subst hq
  exact a1
theorem cats_sum {mid : MethodId} {lsA : Array Slot} {st0 : List Value} {ad : Nat → Nat} {rest : List mV} (h : rest.length ≤ 4) : 2 * (F0 mid pc lsA st0).monitorRoom + ((rest.map (toV ad)).map fun v => v.category).sum ≤ 8 := by
  have : ∀ (l : List mV), ((l.map (toV ad)).map fun v => v.category).sum ≤ 2 * l.length := by
    intro l
    induction l with
    | nil => simp
    | cons a l ih =>
      simp only [List.map_cons, List.sum_cons, List.length_cons]
      have := lv_cat (toV ad a)
      omega
  exact lv_room (Nat.le_trans (this rest) (by omega))
theorem mRep.recv {G : mG} {g : Bool} {ad : Nat → Nat} {H : Heap} {s : State} {i ci : Nat} (hR : mRep G g ad h r H) (hsf : mSf G s) (hi : i < r.2) (hk : kd i = .inr ci) {C : String} (hc : (vwCl[ci]?).map (fun q => q.1) = some C) : ∃ cell : Cell, H[ad i]? = some cell ∧ cell.vm.isStatics = false ∧ s.vm.findClass C = some cell.cls := by
  cases hq : vwCl[ci]? with
  | none => rw [hq] at hc; cases hc
  | some qq =>
    rw [hq] at hc
    cases hc
    have hg : (mW G ad h r)[i]? = some (ad i, .inr (ci, (List.range (nfCl ci)).map (mFv ad h r i ci))) := by rw [mW_get hi, mCe_obj hk]
    exact va_recv hsf.1 hR.1 hq hg
theorem wq_callV {idx : Nat} {m' : mM} {R' : Room} {As rest : List mV} {i ci : Nat} {post : mP} (hd : dc m pc = some (.invokevirtual idx, 3)) (hq : pc + 3 = q) (hl : Cond.methodLink m.1.cls idx m'.1 ∈ t0_ws) (hv : mVt m')
    (hpar : (parseMethodDescriptor m'.1.desc).map (fun d => d.parameters.length) = some As.length) (hk : kd i = .inr ci) (hc : (vwCl[ci]?).map (fun q => q.1) = some m'.1.cls) (hi : mIn E r i)
    (hR1 : R'.frames + 1 ≤ E.2.frames) (hR2 : 8 + (m'.2.2.1 + 11) + R'.locals ≤ E.2.locals) (hb1 : u.1 + R'.cells ≤ E.2.cells) (hb2 : u.2 + R'.slots ≤ E.2.slots) (hrest : rest.length ≤ 4)
    (hM : Meets E.1 R' m' (vR i :: As) h r post) (hs : st = As.reverse ++ vR i :: rest)
    (k : ∀ rv h' r', post rv h' r' → r.2 ≤ r'.2 → WP E m X q ls (rv.toList ++ rest) h' r' (u.1 + R'.cells, u.2 + R'.slots)) : WP E m X pc ls st h r u := by
  intro G p l e s mid args below meth c Q ad0 n0 hC hX ad H locs lsA hag hn hR hS hL hst
  have hm' := hM.1
  have hts : ∀ w ∈ t0_ws, w.before args s = true := hC.2.2.2.2.2.2.2.1
  have hG : GoodIn t0_ws (mWs m') := fun w hw => ⟨by rcases List.mem_cons.mp hw with rfl | hw; exact hm'.2.1; exact hw, (good_t0 (m := m) hm' w hw).2⟩
  have cw : CallW E.2 s args m.1.cls m'.1.cls idx m'.1 m'.2.1 m'.2.2.1 m'.2.2.2.1 (mWs m') R' R'.cells R'.slots As.length :=
    ⟨callB_of As.length hts hG rfl rfl rfl (hts _ hm'.2.2.2.1) (hts _ hl) ⟨hm'.2.2.2.2.1, hm'.2.2.2.2.2, hpar⟩ ⟨hR1, hR2⟩, hts _ hv.1, hts _ hv.2⟩
  have hsf := hC.2.2.2.2.2.2.2.2.1
  subst hs
  have hst' : ∀ v ∈ rest, okV r.2 v := fun v hv => hst v (List.mem_append_right _ (List.mem_cons_of_mem _ hv))
  have hav : ∀ v ∈ vR i :: As, okV r.2 v := fun v hv => by
    rcases List.mem_cons.mp hv with rfl | hv
    · exact hst _ (List.mem_append_right _ List.mem_cons_self)
    · exact hst v (List.mem_append_left _ (List.mem_reverse.mpr hv))
  refine call_back hC hX hag hn hS hL hst' (va_runV (Ts := t0_ws) (cc := m.2.1) (nL := m.2.2.1) (own := m.1.cls) (C := m'.1.cls) (As := As.map (toV ad)) (b := ad i) ⟨hC.1, hC.2.1, hC.2.2.2.1, hC.2.2.2.2.1, hts⟩ (hM.met l G ad) cw ⟨mPre.blind, hR.recv hsf (hi.lt hR) hk hc, fun U hU hW => ⟨rfl, hsf.warm hW hU hS, by rw [hU]; exact hR, hav⟩⟩ rfl (by simp) hL.1 (by simp [toV]) (cats_sum hrest) (mdc hC hd) ⟨hb1, hb2⟩) hq k
theorem wq_callS {idx : Nat} {m' : mM} {R' : Room} {As rest : List mV} {post : mP} (hd : dc m pc = some (.invokestatic idx, 3)) (hq : pc + 3 = q) (hl : Cond.methodLink m.1.cls idx m'.1 ∈ t0_ws) (hv : Cond.static m'.1 ∈ t0_ws)
    (hpar : (parseMethodDescriptor m'.1.desc).map (fun d => d.parameters.length) = some As.length)
    (hR1 : R'.frames + 1 ≤ E.2.frames) (hR2 : 8 + (m'.2.2.1 + 11) + R'.locals ≤ E.2.locals) (hb1 : u.1 + R'.cells ≤ E.2.cells) (hb2 : u.2 + R'.slots ≤ E.2.slots) (hrest : rest.length ≤ 4)
    (hM : Meets E.1 R' m' As h r post) (hs : st = As.reverse ++ rest)
    (k : ∀ rv h' r', post rv h' r' → r.2 ≤ r'.2 → WP E m X q ls (rv.toList ++ rest) h' r' (u.1 + R'.cells, u.2 + R'.slots)) : WP E m X pc ls st h r u := by
  intro G p l e s mid args below meth c Q ad0 n0 hC hX ad H locs lsA hag hn hR hS hL hst
  have hm' := hM.1
  have hts : ∀ w ∈ t0_ws, w.before args s = true := hC.2.2.2.2.2.2.2.1
  have hG : GoodIn t0_ws (mWs m') := fun w hw => ⟨by rcases List.mem_cons.mp hw with rfl | hw; exact hm'.2.1; exact hw, (good_t0 (m := m) hm' w hw).2⟩
  have cw : CallB E.2 s args m.1.cls idx m'.1 m'.2.1 m'.2.2.1 m'.2.2.2.1 (mWs m') R' R'.cells R'.slots As.length ∧ (Cond.static m'.1).before args s = true :=
    ⟨callB_of As.length hts hG rfl rfl rfl (hts _ hm'.2.2.2.1) (hts _ hl) ⟨hm'.2.2.2.2.1, hm'.2.2.2.2.2, hpar⟩ ⟨hR1, hR2⟩, hts _ hv⟩
  have hsf := hC.2.2.2.2.2.2.2.2.1
  subst hs
  have hst' : ∀ v ∈ rest, okV r.2 v := fun v hv => hst v (List.mem_append_right _ hv)
  have hav : ∀ v ∈ As, okV r.2 v := fun v hv => hst v (List.mem_append_left _ (List.mem_reverse.mpr hv))
  refine call_back hC hX hag hn hS hL hst' (va_runS (Ts := t0_ws) (cc := m.2.1) (nL := m.2.2.1) (own := m.1.cls) (As := As.map (toV ad)) ⟨hC.1, hC.2.1, hC.2.2.2.1, hC.2.2.2.2.1, hts⟩ (hM.met l G ad) cw ⟨mPre.blind, fun U hU hW => ⟨rfl, hsf.warm hW hU hS, by rw [hU]; exact hR, hav⟩⟩ rfl (by simp) hL.1 (by simp) (cats_sum hrest) (mdc hC hd) ⟨hb1, hb2⟩) hq k
/-- Math.max, Math.min -/
theorem wq_max {R : Room} {g : Bool} {idx : Nat} {x y : Int} (hl : Cond.methodLink m.1.cls idx Lib.Math.max.name ∈ t0_ws) (hc : Cond.code Lib.Math.max.name Lib.Math.max.code 2 (some .int) ∈ t0_ws) (hs : Cond.static Lib.Math.max.name ∈ t0_ws) (hi : Cond.initialized "java/lang/Math" ∈ t0_ws) (hd : dc m pc = some (.invokestatic idx, 3)) (hq : pc + 3 = q) (h1 : 1 ≤ R.frames) (h2 : 21 ≤ R.locals) (hb1 : u.1 ≤ R.cells) (hb2 : u.2 ≤ R.slots) (hrest : st.length ≤ 4) (k : WP (g, R) m X q ls (vI (if x < y then y else x) :: st) h r u) : WP (g, R) m X pc ls (vI y :: vI x :: st) h r u := by
  intro G p l e s mid args below meth c Q ad0 n0 hC hX ad H locs lsA hag hn hR hS hL hst
  have hts : ∀ w ∈ t0_ws, w.before args s = true := hC.2.2.2.2.2.2.2.1
  have hy : okI y := ok_hd hst
  have hx : okI x := ok_hd (ok_tl hst)
  subst hq
  have hsum := cats_sum (mid := mid) (pc := pc) (lsA := lsA) (st0 := []) (ad := ad) hrest
  have hlo : (List.map (fun v => v.category) (List.map (toV ad) st)).sum + 13 ≤ R.locals := by omega
  refine va_mmax hC.1 hC.2.1 (hC.2.2.2.1.trans hL.1.symm) hC.2.2.2.2.1 (hts _ hl) (hts _ hs) (hts _ hi) (hts _ hc) h1 hlo hb1 hb2 (mdc hC hd) ?_
  have e1 : (if Int32.ofInt x < Int32.ofInt y then Int32.ofInt y else Int32.ofInt x) = Int32.ofInt (if x < y then y else x) := by
    simp only [oi_lt hx hy]
    split <;> rfl
  rw [e1]
  exact k G p l e s mid args below meth c Q ad0 n0 hC hX ad H locs lsA hag hn hR hS hL (ok_cons (v := vI (if x < y then y else x)) (by show okI _; split <;> assumption) (ok_tl (ok_tl hst)))
theorem wq_min {R : Room} {g : Bool} {idx : Nat} {x y : Int} (hl : Cond.methodLink m.1.cls idx Lib.Math.min.name ∈ t0_ws) (hc : Cond.code Lib.Math.min.name Lib.Math.min.code 2 (some .int) ∈ t0_ws) (hs : Cond.static Lib.Math.min.name ∈ t0_ws) (hi : Cond.initialized "java/lang/Math" ∈ t0_ws) (hd : dc m pc = some (.invokestatic idx, 3)) (hq : pc + 3 = q) (h1 : 1 ≤ R.frames) (h2 : 21 ≤ R.locals) (hb1 : u.1 ≤ R.cells) (hb2 : u.2 ≤ R.slots) (hrest : st.length ≤ 4) (k : WP (g, R) m X q ls (vI (if y < x then y else x) :: st) h r u) : WP (g, R) m X pc ls (vI y :: vI x :: st) h r u := by
  intro G p l e s mid args below meth c Q ad0 n0 hC hX ad H locs lsA hag hn hR hS hL hst
  have hts : ∀ w ∈ t0_ws, w.before args s = true := hC.2.2.2.2.2.2.2.1
  have hy : okI y := ok_hd hst
  have hx : okI x := ok_hd (ok_tl hst)
  subst hq
  have hsum := cats_sum (mid := mid) (pc := pc) (lsA := lsA) (st0 := []) (ad := ad) hrest
  have hlo : (List.map (fun v => v.category) (List.map (toV ad) st)).sum + 13 ≤ R.locals := by omega
  refine va_mmin hC.1 hC.2.1 (hC.2.2.2.1.trans hL.1.symm) hC.2.2.2.2.1 (hts _ hl) (hts _ hs) (hts _ hi) (hts _ hc) h1 hlo hb1 hb2 (mdc hC hd) ?_
  have e1 : (if Int32.ofInt y < Int32.ofInt x then Int32.ofInt y else Int32.ofInt x) = Int32.ofInt (if y < x then y else x) := by
    simp only [oi_lt hy hx]
    split <;> rfl
  rw [e1]
  exact k G p l e s mid args below meth c Q ad0 n0 hC hX ad H locs lsA hag hn hR hS hL (ok_cons (v := vI (if y < x then y else x)) (by show okI _; split <;> assumption) (ok_tl (ok_tl hst)))
/-- the ends -/
theorem wq_iret {g : Bool} {R : Room} {post : mP} {x : Int} (hd : dc m pc = some (.ireturn, 1)) (hrt : m.2.2.2.1 = some .int) (hb1 : u.1 ≤ R.cells) (hb2 : u.2 ≤ R.slots) (hp : post (some (vI x)) h r) : WP (g, R) m (rt m R post) pc ls [vI x] h r u :=
  WP.exit ⟨hb1, hb2, Or.inl ⟨hd, x, rfl, ⟨_, hrt, rfl⟩, hp⟩⟩
theorem wq_zret {g : Bool} {R : Room} {post : mP} {x : Int} (hd : dc m pc = some (.ireturn, 1)) (hrt : m.2.2.2.1 = some .boolean) (hb1 : u.1 ≤ R.cells) (hb2 : u.2 ≤ R.slots) (hz : x = 0 ∨ x = 1) (hp : post (some (vI x)) h r) : WP (g, R) m (rt m R post) pc ls [vI x] h r u :=
  WP.exit ⟨hb1, hb2, Or.inl ⟨hd, x, rfl, ⟨_, hrt, by rcases hz with rfl | rfl <;> decide⟩, hp⟩⟩
theorem wq_vret {g : Bool} {R : Room} {post : mP} (hd : dc m pc = some (.return_, 1)) (hrt : m.2.2.2.1 = none) (hb1 : u.1 ≤ R.cells) (hb2 : u.2 ≤ R.slots) (hp : post none h r) : WP (g, R) m (rt m R post) pc ls [] h r u :=
  WP.exit ⟨hb1, hb2, Or.inr (Or.inl ⟨hd, rfl, hrt, hp⟩)⟩
theorem wq_lret {g : Bool} {R : Room} {post : mP} {x : Int} (hd : dc m pc = some (.lreturn, 1)) (hrt : m.2.2.2.1 = some .long) (hb1 : u.1 ≤ R.cells) (hb2 : u.2 ≤ R.slots) (hp : post (some (vJ x)) h r) : WP (g, R) m (rt m R post) pc ls [vJ x] h r u :=
  WP.exit ⟨hb1, hb2, Or.inr (Or.inr ⟨hd, x, rfl, hrt, hp⟩)⟩
end CL

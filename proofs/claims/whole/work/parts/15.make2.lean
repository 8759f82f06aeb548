section MK2
variable {E : mE} {m : mM} {X : mX} {pc q : Nat} {ls : mL} {st : List mV} {h : mH} {r : mR} {u : mU}
theorem wq_newI {n : Nat} (hw : Cond.arrayClass .int ∈ t0_ws) (hk : kd r.2 = .inl (.int, n)) (ho : okb n = true) (hby : n * 4 ≤ 536870912) (hd : dc m pc = some (.newarray .int, 2)) (hq : pc + 2 = q) (hb : r.2 + 1 ≤ sBase) (hc : u.1 + 1 ≤ E.2.cells) (hs : u.2 + n ≤ E.2.slots)
    (k : WP E m X q ls (vR r.2 :: st) (hnew h r.2) (rnew r) (u.1 + 1, u.2 + n)) : WP E m X pc ls (vI n :: st) h r u :=
  newa_go hw rfl hk ho hby hd hq hb hc hs (fun s G cA hsf hf => Option.some.inj (hf.symm.trans (hsf.1.2 0 _ rfl).2)) (fun h cA hz => by
    have : (fun j : Nat => Value.int (Int32.ofInt (h r.2 j))) = fun _ => defaultValue .int := by funext j; rw [hz]; rfl
    show arrV cA n (fun j : Nat => Value.int (Int32.ofInt (h r.2 j))) = _
    rw [this]) k
theorem wq_newB {n : Nat} (hw : Cond.arrayClass .byte ∈ t0_ws) (hk : kd r.2 = .inl (.byte, n)) (ho : okb n = true) (hby : n * 1 ≤ 536870912) (hd : dc m pc = some (.newarray .byte, 2)) (hq : pc + 2 = q) (hb : r.2 + 1 ≤ sBase) (hc : u.1 + 1 ≤ E.2.cells) (hs : u.2 + n ≤ E.2.slots)
    (k : WP E m X q ls (vR r.2 :: st) (hnew h r.2) (rnew r) (u.1 + 1, u.2 + n)) : WP E m X pc ls (vI n :: st) h r u :=
  newa_go hw rfl hk ho hby hd hq hb hc hs (fun s G cA hsf hf => Option.some.inj (hf.symm.trans (hsf.1.2 1 _ rfl).2)) (fun h cA hz => by
    have : (fun j : Nat => Value.int (Int32.ofInt (h r.2 j))) = fun _ => defaultValue .byte := by funext j; rw [hz]; rfl
    show arrV cA n (fun j : Nat => Value.int (Int32.ofInt (h r.2 j))) = _
    rw [this]) k
theorem wq_newZ {n : Nat} (hw : Cond.arrayClass .boolean ∈ t0_ws) (hk : kd r.2 = .inl (.boolean, n)) (ho : okb n = true) (hby : n * 1 ≤ 536870912) (hd : dc m pc = some (.newarray .boolean, 2)) (hq : pc + 2 = q) (hb : r.2 + 1 ≤ sBase) (hc : u.1 + 1 ≤ E.2.cells) (hs : u.2 + n ≤ E.2.slots)
    (k : WP E m X q ls (vR r.2 :: st) (hnew h r.2) (rnew r) (u.1 + 1, u.2 + n)) : WP E m X pc ls (vI n :: st) h r u :=
  newa_go hw rfl hk ho hby hd hq hb hc hs (fun s G cA hsf hf => Option.some.inj (hf.symm.trans (hsf.1.2 2 _ rfl).2)) (fun h cA hz => by
    have : (fun j : Nat => Value.int (Int32.ofInt (h r.2 j))) = fun _ => defaultValue .boolean := by funext j; rw [hz]; rfl
    show arrV cA n (fun j : Nat => Value.int (Int32.ofInt (h r.2 j))) = _
    rw [this]) k
theorem wq_newL {n : Nat} (hw : Cond.arrayClass .long ∈ t0_ws) (hk : kd r.2 = .inl (.long, n)) (ho : okb n = true) (hby : n * 8 ≤ 536870912) (hd : dc m pc = some (.newarray .long, 2)) (hq : pc + 2 = q) (hb : r.2 + 1 ≤ sBase) (hc : u.1 + 1 ≤ E.2.cells) (hs : u.2 + n ≤ E.2.slots)
    (k : WP E m X q ls (vR r.2 :: st) (hnew h r.2) (rnew r) (u.1 + 1, u.2 + n)) : WP E m X pc ls (vI n :: st) h r u :=
  newa_go hw rfl hk ho hby hd hq hb hc hs (fun s G cA hsf hf => Option.some.inj (hf.symm.trans (hsf.1.2 3 _ rfl).2)) (fun h cA hz => by
    have : (fun j : Nat => Value.long (Int64.ofInt (h r.2 j))) = fun _ => defaultValue .long := by funext j; rw [hz]; rfl
    show arrV cA n (fun j : Nat => Value.long (Int64.ofInt (h r.2 j))) = _
    rw [this]) k
def dfOK (ci : Nat) : Bool := (List.range (nfCl ci)).all fun k => match tyCl ci k with
  | .int => true
  | .boolean => true
  | .object _ => true
  | .array _ => true
  | _ => false
theorem mFv_new {ad : Nat → Nat} {h : mH} {r : mR} {ci k : Nat} (hd : dfOK ci = true) (hk : k < nfCl ci) : mFv ad (hnew h r.2) (rnew r) r.2 ci k = defaultValue (tyCl ci k) := by
  have h1 := List.all_eq_true.mp hd k (List.mem_range.mpr hk)
  unfold mFv
  have e1 : hnew h r.2 r.2 k = 0 := by simp [hnew]
  have e2 : (rnew r).1 r.2 k = none := by simp [rnew]
  rw [e1, e2]
  split at h1 <;> rename_i hx <;> simp_all [isRf, defaultValue, toV]
theorem wq_new {idx ci : Nat} {C : String} {T : u_T} {N : Nat} (hcl : Cond.classLink m.1.cls idx C ∈ t0_ws) (hins : Cond.instantiable C N ∈ t0_ws) (hini : Cond.initialized C ∈ t0_ws) (hv : vwCl[ci]? = some (C, T, N)) (hk : kd r.2 = .inr ci) (hdf : dfOK ci = true) (hd : dc m pc = some (.new idx, 3)) (hq : pc + 3 = q) (hb : r.2 + 1 ≤ sBase) (hc : u.1 + 1 ≤ E.2.cells) (hs : u.2 + N ≤ E.2.slots)
    (k : WP E m X q ls (vR r.2 :: st) (hnew h r.2) (rnew r) (u.1 + 1, u.2 + N)) : WP E m X pc ls st h r u := by
  intro G p l e s mid args below meth c Q ad0 n0 hC hX ad H locs lsA hag hn hR hS hL hst
  subst hq
  have hts : ∀ w ∈ t0_ws, w.before args s = true := hC.2.2.2.2.2.2.2.1
  have hsf := hC.2.2.2.2.2.2.2.2.1
  obtain ⟨o1, o2, o3⟩ := ok_cl ci _ hv
  refine va_new (A := mA G) (fs := (List.range N).map fun k => defaultValue (tyCl ci k)) hC.1 hC.2.1 hts o1 (tyCl ci) o3 hC.2.2.2.2.1 (hts _ hcl) (hts _ hins) (hts _ hini) hsf.1 hR.1 hR.2.1 hS (fun z hz => Nat.le_trans hsf.2.1 hz) hv (fun j hj => by unfold vp_V; simp [List.getD, List.getElem?_map, List.getElem?_range hj]) hc hs (mdc hC hd) (fun a H1 hP1 hD1 hS1 => ?_)
  have e0 : mCe G (adn ad r.2 a) (hnew h r.2) (rnew r) r.2 = .inr (ci, (List.range N).map fun k => defaultValue (tyCl ci k)) := by
    rw [mCe_obj hk, nf_of hv]
    congr 1
    congr 1
    refine List.map_congr_left fun k hk => mFv_new hdf ?_
    rw [nf_of hv]
    exact List.mem_range.mp hk
  rw [← e0] at hP1 hD1
  have hR1 := hR.new hb hP1 hD1
  have hag1 := adn_ag (ad := ad) (a := a) (show r.2 < sBase from hb)
  have kk := k G p l e s mid args below meth c Q ad0 n0 hC hX (adn ad r.2 a) H1 locs lsA (fun i hi => (hag1 i (hi.elim (fun z => Or.inl (Nat.lt_of_lt_of_le z hn)) Or.inr)).trans (hag i hi)) (Nat.le_succ_of_le hn) hR1 hS1 (hL.ag hag1 (Nat.le_succ _)) (ok_cons (v := vR r.2) (Or.inl (Nat.lt_succ_self _)) (fun w hw => (hst w hw).mono (Nat.le_succ _)))
  have e1 : (vR r.2 :: st).map (toV (adn ad r.2 a)) = .ref a :: st.map (toV ad) := by
    rw [List.map_cons, map_ag hag1 hst]
    simp [toV, adn]
  rw [e1] at kk
  exact kk
theorem wq_objInit {idx i : Nat} (hl : Cond.methodLink m.1.cls idx Lib.objectInit ∈ t0_ws) (hin : Cond.instanceMethod Lib.objectInit ∈ t0_ws) (hcd : Cond.code Lib.objectInit ⟨#[0xb1]⟩ 1 none ∈ t0_ws) (hd : dc m pc = some (.invokespecial idx, 3)) (hq : pc + 3 = q) (h1 : 1 ≤ E.2.frames) (h2 : 20 ≤ E.2.locals) (hrest : st.length ≤ 4) (k : WP E m X q ls st h r u) : WP E m X pc ls (vR i :: st) h r u := by
  intro G p l e s mid args below meth c Q ad0 n0 hC hX ad H locs lsA hag hn hR hS hL hst
  have hts : ∀ w ∈ t0_ws, w.before args s = true := hC.2.2.2.2.2.2.2.1
  subst hq
  have hsum := cats_sum (mid := mid) (pc := pc) (lsA := lsA) (st0 := (vR i :: st).map (toV ad)) (ad := ad) hrest
  exact W.objInit hC.1 hC.2.1 hC.2.2.2.2.1 (hts _ hl) (hts _ hin) (hts _ hcd) rfl (hL.1.trans hC.2.2.2.1.symm) rfl (mdc hC hd) h1 (by omega) (k G p l e s mid args below meth c Q ad0 n0 hC hX ad H locs lsA hag hn hR hS hL (ok_tl hst))
theorem wq_callI {idx : Nat} {m' : mM} {R' : Room} {As rest : List mV} {i : Nat} {post : mP} (hd : dc m pc = some (.invokespecial idx, 3)) (hq : pc + 3 = q) (hl : Cond.methodLink m.1.cls idx m'.1 ∈ t0_ws) (hv : Cond.instanceMethod m'.1 ∈ t0_ws) (hname : m'.1.name = "<init>") (hret : m'.2.2.2.1 = none)
    (hpar : (parseMethodDescriptor m'.1.desc).map (fun d => d.parameters.length) = some As.length)
    (hR1 : R'.frames + 1 ≤ E.2.frames) (hR2 : 8 + (m'.2.2.1 + 11) + R'.locals ≤ E.2.locals) (hb1 : u.1 + R'.cells ≤ E.2.cells) (hb2 : u.2 + R'.slots ≤ E.2.slots) (hrest : rest.length ≤ 4)
    (hM : Meets E.1 R' m' (vR i :: As) h r post) (hs : st = As.reverse ++ vR i :: rest)
    (k : ∀ rv h' r', post rv h' r' → r.2 ≤ r'.2 → WP E m X q ls (rv.toList ++ rest) h' r' (u.1 + R'.cells, u.2 + R'.slots)) : WP E m X pc ls st h r u := by
  intro G p l e s mid args below meth c Q ad0 n0 hC hX ad H locs lsA hag hn hR hS hL hst
  have hm' := hM.1
  have hts : ∀ w ∈ t0_ws, w.before args s = true := hC.2.2.2.2.2.2.2.1
  have hG : GoodIn t0_ws (mWs m') := fun w hw => ⟨by rcases List.mem_cons.mp hw with rfl | hw; exact hm'.2.1; exact hw, (good_t0 (m := m) hm' w hw).2⟩
  have cw : CallB E.2 s args m.1.cls idx m'.1 m'.2.1 m'.2.2.1 none (mWs m') R' R'.cells R'.slots As.length ∧ m'.1.name = "<init>" ∧ (Cond.instanceMethod m'.1).before args s = true :=
    ⟨callB_of (ws' := t0_ws) As.length hts hG (by unfold mWs; rw [hret]) rfl rfl (hts _ hm'.2.2.2.1) (hts _ hl) ⟨hm'.2.2.2.2.1, hm'.2.2.2.2.2, hpar⟩ ⟨hR1, hR2⟩, hname, hts _ hv⟩
  have hsf := hC.2.2.2.2.2.2.2.2.1
  subst hs
  have hst' : ∀ v ∈ rest, okV r.2 v := fun v hv => hst v (List.mem_append_right _ (List.mem_cons_of_mem _ hv))
  have hav : ∀ v ∈ vR i :: As, okV r.2 v := fun v hv => by
    rcases List.mem_cons.mp hv with rfl | hv
    · exact hst _ (List.mem_append_right _ List.mem_cons_self)
    · exact hst v (List.mem_append_left _ (List.mem_reverse.mpr hv))
  refine call_back hC hX hag hn hS hL hst' (va_runI (Ts := t0_ws) (cc := m.2.1) (nL := m.2.2.1) (own := m.1.cls) (As := As.map (toV ad)) (b := ad i) ⟨hC.1, hC.2.1, hC.2.2.2.1, hC.2.2.2.2.1, hts⟩ (hM.met l G ad) cw ⟨mPre.blind, fun U hU hW => ⟨rfl, hsf.warm hW hU hS, by rw [hU]; exact hR, hav⟩⟩ rfl (by simp) hL.1 (by simp [toV]) (cats_sum hrest) (mdc hC hd) ⟨hb1, hb2⟩) hq k
theorem wq_callIN {idx : Nat} {m' : mM} {R' : Room} {As rest : List mV} {i : Nat} {post : mP} (hd : dc m pc = some (.invokespecial idx, 3)) (hq : pc + 3 = q) (hl : (m.1.cls, idx, m'.1) ∈ nestW) (hv : Cond.instanceMethod m'.1 ∈ t0_ws) (hname : m'.1.name = "<init>") (hret : m'.2.2.2.1 = none)
    (hpar : (parseMethodDescriptor m'.1.desc).map (fun d => d.parameters.length) = some As.length)
    (hR1 : R'.frames + 1 ≤ E.2.frames) (hR2 : 8 + (m'.2.2.1 + 11) + R'.locals ≤ E.2.locals) (hb1 : u.1 + R'.cells ≤ E.2.cells) (hb2 : u.2 + R'.slots ≤ E.2.slots) (hrest : rest.length ≤ 4)
    (hM : Meets E.1 R' m' (vR i :: As) h r post) (hs : st = As.reverse ++ vR i :: rest)
    (k : ∀ rv h' r', post rv h' r' → r.2 ≤ r'.2 → WP E m X q ls (rv.toList ++ rest) h' r' (u.1 + R'.cells, u.2 + R'.slots)) : WP E m X pc ls st h r u := by
  intro G p l e s mid args below meth c Q ad0 n0 hC hX ad H locs lsA hag hn hR hS hL hst
  have hm' := hM.1
  have hts : ∀ w ∈ t0_ws, w.before args s = true := hC.2.2.2.2.2.2.2.1
  have hG : GoodIn t0_ws (mWs m') := fun w hw => ⟨by rcases List.mem_cons.mp hw with rfl | hw; exact hm'.2.1; exact hw, (good_t0 (m := m) hm' w hw).2⟩
  have hsf := hC.2.2.2.2.2.2.2.2.1
  have cw : va_CN E.2 s args m.1.cls idx m'.1 "LinkTimes" m'.2.1 m'.2.2.1 none (mWs m') R' R'.cells R'.slots As.length ∧ m'.1.name = "<init>" ∧ (Cond.instanceMethod m'.1).before args s = true :=
    ⟨va_cnB (ws' := t0_ws) As.length hts hG (by unfold mWs; rw [hret]) rfl rfl (hsf.2.2.1 _ hl) (hts _ hm'.2.2.2.1) ⟨hm'.2.2.2.2.1, hm'.2.2.2.2.2, hpar⟩ ⟨hR1, hR2⟩, hname, hts _ hv⟩
  subst hs
  have hst' : ∀ v ∈ rest, okV r.2 v := fun v hv => hst v (List.mem_append_right _ (List.mem_cons_of_mem _ hv))
  have hav : ∀ v ∈ vR i :: As, okV r.2 v := fun v hv => by
    rcases List.mem_cons.mp hv with rfl | hv
    · exact hst _ (List.mem_append_right _ List.mem_cons_self)
    · exact hst v (List.mem_append_left _ (List.mem_reverse.mpr hv))
  refine call_back hC hX hag hn hS hL hst' (va_runIN (Ts := t0_ws) (cc := m.2.1) (nL := m.2.2.1) (own := m.1.cls) (As := As.map (toV ad)) (b := ad i) ⟨hC.1, hC.2.1, hC.2.2.2.1, hC.2.2.2.2.1, hts⟩ (hM.met l G ad) cw ⟨mPre.blind, fun U hU hW => ⟨rfl, hsf.warm hW hU hS, by rw [hU]; exact hR, hav⟩⟩ rfl (by simp) hL.1 (by simp [toV]) (cats_sum hrest) (mdc hC hd) ⟨hb1, hb2⟩) hq k
end MK2

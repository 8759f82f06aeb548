/-! the law: its judgement (a script is fixed), its rows -/
abbrev mSc : Type := Nat × (Nat → Int32)
def LwC (sc : mSc) (G : mG) (l : Launch) (s : State) : Prop := G.2.2.2.2.2.2.1 = sc.1 ∧ G.2.2.2.2.2.2.2.1 = sc.2 ∧ l.stackTraces = false ∧ exF (mA G) s ∧ sc.1 ≤ 3072
def WPs (sc : mSc) (E : mE) (m : mM) (X : mX) (pc : Nat) (ls : mL) (st : List mV) (h : mH) (r : mR) (u : mU) : Prop :=
  ∀ (G : mG) (p : Program) (l : Launch) (e : Env) (s : State) (mid : MethodId) (args : Array Value) (below : List Frame) (meth : Method) (c : Code) (Q : State → Prop) (ad0 : Nat → Nat), mCx G m p s mid args meth c → LwC sc G l s →
    (∀ pc' ls' st' h' r' u', X pc' ls' st' h' r' u' → mAt G E m p l e s mid args below meth c Q ad0 0 pc' ls' st' h' r' u') → mAt G E m p l e s mid args below meth c Q ad0 0 pc ls st h r u
section LW
variable {sc : mSc} {E : mE} {m : mM} {X : mX} {pc q : Nat} {ls : mL} {st : List mV} {h : mH} {r : mR} {u : mU}
theorem WPs.exit (hx : X pc ls st h r u) : WPs sc E m X pc ls st h r u := fun _ _ _ _ _ _ _ _ _ _ _ _ _ _ hX => hX _ _ _ _ _ _ hx
theorem WPs.step {Y : mX} (h1 : WP E m Y pc ls st h r u) (h2 : ∀ pc ls st h r u, Y pc ls st h r u → WPs sc E m X pc ls st h r u) : WPs sc E m X pc ls st h r u :=
  fun G p l e s mid args below meth c Q ad0 hC hL hX => h1 G p l e s mid args below meth c Q ad0 0 hC (fun pc' ls' st' h' r' u' hx => h2 pc' ls' st' h' r' u' hx G p l e s mid args below meth c Q ad0 hC hL hX)
/-- exactly this state -/
def atX (pc : Nat) (ls : mL) (st : List mV) (h : mH) (r : mR) (u : mU) : mX := fun a b c d e f => a = pc ∧ b = ls ∧ c = st ∧ d = h ∧ e = r ∧ f = u
theorem WPs.row {pc' : Nat} {ls' : mL} {st' : List mV} {h' : mH} {r' : mR} {u' : mU} (h1 : WP E m (atX pc' ls' st' h' r' u') pc' ls' st' h' r' u' → WP E m (atX pc' ls' st' h' r' u') pc ls st h r u) (h2 : WPs sc E m X pc' ls' st' h' r' u') : WPs sc E m X pc ls st h r u := by
  refine WPs.step (h1 (WP.exit ⟨rfl, rfl, rfl, rfl, rfl, rfl⟩)) ?_
  rintro _ _ _ _ _ _ ⟨rfl, rfl, rfl, rfl, rfl, rfl⟩
  exact h2
def scv (sc : mSc) (j : Int) : Int := (sc.2 j.toNat).toInt
theorem ws_len (hd : dc m pc = some (.arraylength, 1)) (hq : pc + 1 = q) (hs : sc.1 ≤ 3072) (k : WPs sc E m X q ls (vI sc.1 :: st) h r u) : WPs sc E m X pc ls (vR sScr :: st) h r u := by
  intro G p l e s mid args below meth c Q ad0 hC hLw hX ad H locs lsA hag hn hR hS hL hst
  subst hq
  have hsf := hC.2.2.2.2.2.2.2.2.1
  have hA : ad sScr = G.2.2.2.2.2.1 := hR.2.2.2.2.2.2.2.1
  have hx := hsf.2.2.2.2.2.2.2.1
  have hb := hsf.2.2.2.2.2.2.2.2
  rw [hLw.1] at hx
  show W p l e E.2 s mid args below meth c H locs u.1 u.2 Q (F0 mid pc lsA (.ref (ad sScr) :: st.map (toV ad)))
  rw [hA]
  refine va_slen hC.1 hC.2.1 hx (Nat.lt_of_lt_of_le hb hsf.2.1) (Nat.not_le.mpr hb) hS (mdc hC hd) ?_
  have e1 : (Value.int (Int32.ofNat sc.1)) = toV ad (vI sc.1) := by
    show _ = Value.int (Int32.ofInt sc.1)
    rw [Int32.ofInt_eq_ofNat]
  rw [e1]
  exact k G p l e s mid args below meth c Q ad0 hC hLw hX ad H locs lsA hag hn hR hS hL (ok_cons (v := vI sc.1) (by show okI _; unfold okI; omega) (ok_tl hst))
theorem ws_ld {x : Int} (hd : dc m pc = some (.iaload, 1)) (hq : pc + 1 = q) (h0 : 0 ≤ x) (h1 : x < sc.1) (k : WPs sc E m X q ls (vI (scv sc x) :: st) h r u) : WPs sc E m X pc ls (vI x :: vR sScr :: st) h r u := by
  intro G p l e s mid args below meth c Q ad0 hC hLw hX ad H locs lsA hag hn hR hS hL hst
  subst hq
  have hsf := hC.2.2.2.2.2.2.2.2.1
  have hA : ad sScr = G.2.2.2.2.2.1 := hR.2.2.2.2.2.2.2.1
  have hx := hsf.2.2.2.2.2.2.2.1
  have hb := hsf.2.2.2.2.2.2.2.2
  rw [hLw.1, hLw.2.1] at hx
  have ox : okI x := ok_hd hst
  show W p l e E.2 s mid args below meth c H locs u.1 u.2 Q (F0 mid pc lsA (.int (Int32.ofInt x) :: .ref (ad sScr) :: st.map (toV ad)))
  rw [hA]
  refine va_sld hC.1 hC.2.1 hx (Nat.lt_of_lt_of_le hb hsf.2.1) (Nat.not_le.mpr hb) hS (oi_in ox h0 h1) (mdc hC hd) ?_
  have e1 : Value.int (sc.2 (Int32.ofInt x).toNatClampNeg) = toV ad (vI (scv sc x)) := by
    show _ = Value.int (Int32.ofInt (scv sc x))
    unfold scv
    rw [oi_rt, oi_clamp ox h0]
  rw [e1]
  exact k G p l e s mid args below meth c Q ad0 hC hLw hX ad H locs lsA hag hn hR hS hL (ok_cons (v := vI (scv sc x)) (oi_of _) (ok_tl (ok_tl hst)))
/-- the two desks change places -/
theorem sg_sg (i : Nat) : sg (sg i) = i := by
  unfold sg
  split
  · rw [if_neg (by omega), if_pos (by omega)]; omega
  · split
    · rw [if_pos (by omega)]; omega
    · rfl
theorem sg_o {i : Nat} (h : 24 ≤ i) : sg i = i := by
  unfold sg
  rw [if_neg (by omega), if_neg (by omega)]
theorem sg_lt {i n : Nat} (hn : 24 ≤ n) (h : i < n) : sg i < n := by
  unfold sg
  split
  · omega
  · split <;> omega
theorem kd_sg (i : Nat) : kd (sg i) = kd i := by
  by_cases h : i < 24
  · have : ∀ i, i < 24 → kd (sg i) = kd i := by
      intro i hi
      have : i = 0 ∨ i = 1 ∨ i = 2 ∨ i = 3 ∨ i = 4 ∨ i = 5 ∨ i = 6 ∨ i = 7 ∨ i = 8 ∨ i = 9 ∨ i = 10 ∨ i = 11 ∨ i = 12 ∨ i = 13 ∨ i = 14 ∨ i = 15 ∨ i = 16 ∨ i = 17 ∨ i = 18 ∨ i = 19 ∨ i = 20 ∨ i = 21 ∨ i = 22 ∨ i = 23 := by omega
      rcases this with rfl | rfl | rfl | rfl | rfl | rfl | rfl | rfl | rfl | rfl | rfl | rfl | rfl | rfl | rfl | rfl | rfl | rfl | rfl | rfl | rfl | rfl | rfl | rfl <;> rfl
    exact this i h
  · rw [sg_o (by omega)]
theorem rfq_sg {i k t : Nat} (h : rfq i k = some t) : rfq (sg i) k = some (sg t) := by
  have key : ∀ p ∈ rfT, ∀ q ∈ p.2, rfq (sg p.1) q.1 = some (sg q.2) := by decide +kernel
  unfold rfq at h
  split at h
  · rename_i l hl
    exact key (i, l) (lookup_mem hl) (k, t) (lookup_mem h)
  · cases h
theorem mCe_sw (G : mG) (ad : Nat → Nat) (h : mH) (r : mR) (k : Nat) : mCe G (fun i => ad (sg i)) (swH h) (swR r) k = mCe G ad h r (sg k) := by
  unfold mCe
  rw [kd_sg k]
  split
  · rename_i ty n _
    rfl
  · rename_i ci _
    congr 2
    refine List.map_congr_left (fun j _ => ?_)
    unfold mFv
    split
    · show toV (fun i => ad (sg i)) (.inr (.inr ((r.1 (sg k) j).map sg))) = _
      cases r.1 (sg k) j with
      | none => rfl
      | some t =>
        show Value.ref (ad (sg (sg t))) = Value.ref (ad t)
        rw [sg_sg]
    · rfl
theorem mRep.sw {G : mG} {ad : Nat → Nat} {H : Heap} (hR : mRep G true ad h r H) : mRep G true (fun i => ad (sg i)) (swH h) (swR r) H := by
  obtain ⟨a1, a2, a3, a4, a5, a6, a7, a8, a9⟩ := hR
  have n87 : 87 ≤ r.2 := (a4 rfl).1
  have hg : ∀ (k : Nat) (q : Nat × va_E), (mW G (fun i => ad (sg i)) (swH h) (swR r))[k]? = some q → (mW G ad h r)[sg k]? = some q := fun k q hk => by
    have hk2 : k < r.2 := by
      have := (List.getElem?_eq_some_iff.mp hk).1
      unfold mW at this
      have h2 : k < (swR r).2 := by simpa using this
      exact h2
    rw [mW_get (r := swR r) hk2, mCe_sw] at hk
    rw [mW_get (sg_lt (by omega) hk2)]
    exact hk
  refine ⟨a1.by sg hg, a2.by sg hg (fun i j _ _ e => by rw [← sg_sg i, e, sg_sg]), fun i j => ?_, fun _ => ⟨n87, fun i k t ht => ?_⟩, fun i k t ht => ?_, a6, fun i hi => ?_, ?_, ?_⟩
  · have := a3 (sg i) j
    have e : isJ (sg i) = isJ i := by unfold isJ; rw [kd_sg]
    rw [e] at this
    exact this
  · show (r.1 (sg i) k).map sg = some t
    rw [(a4 rfl).2 _ _ _ (rfq_sg ht)]
    show some (sg (sg t)) = some t
    rw [sg_sg]
  · have ht' : (r.1 (sg i) k).map sg = some t := ht
    cases e : r.1 (sg i) k with
    | none => rw [e] at ht'; cases ht'
    | some t0 =>
      rw [e] at ht'
      cases ht'
      exact (sg_lt (n := r.2) (by omega) (a5 _ _ _ e) : sg t0 < r.2)
  · show ad (sg (sBase + i)) = _ ∧ ad (sg (sBase + 1000 + i)) = _
    rw [sg_o (by unfold sBase; omega), sg_o (by unfold sBase; omega)]
    exact a7 i hi
  · show ad (sg sScr) = _
    rw [sg_o (by decide)]
    exact a8
  · show ad (sg (sScr + 1)) = _
    rw [sg_o (by decide)]
    exact a9
def fxd : mV → Prop
  | .inr (.inr (some t)) => sg t = t
  | _ => True
theorem toV_sg {ad : Nat → Nat} {v : mV} (h : fxd v) : toV (fun i => ad (sg i)) v = toV ad v := by
  rcases v with x | x | _ | t
  · rfl
  · rfl
  · rfl
  · show Value.ref (ad (sg t)) = Value.ref (ad t)
    rw [show sg t = t from h]
theorem ws_sw {R : Room} (hl : ∀ (j : Nat) (v : mV), ls[j]? = some (some v) → fxd v) (k : WPs sc (true, R) m X pc ls [] (swH h) (swR r) u) : WPs sc (true, R) m X pc ls [] h r u := by
  intro G p l e s mid args below meth c Q ad0 hC hLw hX ad H locs lsA hag hn hR hS hL hst
  refine k G p l e s mid args below meth c Q ad0 hC hLw hX (fun i => ad (sg i)) H locs lsA (fun i hi => ?_) (Nat.zero_le _) hR.sw hS ⟨hL.1, hL.2.1, hL.2.2.1, fun j v hj => ⟨by rw [toV_sg (hl j v hj)]; exact (hL.2.2.2 j v hj).1, (hL.2.2.2 j v hj).2⟩⟩ (fun v hv => absurd hv List.not_mem_nil)
  show ad (sg i) = ad0 i
  rw [sg_o (by unfold sBase at hi; omega)]
  exact hag i hi
end LW

/-! the pure machine's rows for fields and arrays -/
def hup (h : mH) (i : Nat) (j v : Int) : mH := fun a b => if a = i ∧ b = j then v else h a b
def rup (r : mR) (i k : Nat) (v : Option Nat) : mR := (fun a b => if a = i ∧ b = k then v else r.1 a b, r.2)
def finCl (ci k : Nat) : Bool := match vwCl[ci]? with
  | some q => (q.2.1 k).2.2.2
  | none => true
theorem rfq_spec {r : mR} {i k t : Nat} (h : rfOK r) (hq : rfq i k = some t) : r.1 i k = some t := h.2 i k t hq
theorem rfOK.up {r : mR} {i k : Nat} {v : Option Nat} (h : rfOK r) (hq : rfq i k = none) : rfOK (rup r i k v) := by
  refine ⟨h.1, fun a b t hm => ?_⟩
  have hne : ¬ (a = i ∧ b = k) := by
    rintro ⟨rfl, rfl⟩
    rw [hq] at hm
    cases hm
  show (if a = i ∧ b = k then v else r.1 a b) = _
  rw [if_neg hne]
  exact h.2 a b t hm
theorem rOK.up {r : mR} {i k : Nat} {v : Option Nat} (h : rOK r) (hv : ∀ t, v = some t → t < r.2) : rOK (rup r i k v) := by
  intro a b t ht
  unfold rup at ht
  dsimp only at ht
  split at ht
  · exact hv t ht
  · exact h a b t ht
section MW
variable {G : mG} {ad : Nat → Nat} {h : mH} {r : mR} {i : Nat}
theorem mW_get (hi : i < r.2) : (mW G ad h r)[i]? = some (ad i, mCe G ad h r i) := by
  unfold mW
  rw [List.getElem?_map, List.getElem?_range hi]
  rfl
theorem hup_ne {a : Nat} {j v : Int} (hne : ¬ a = i) : hup h i j v a = h a := by
  funext b
  simp [hup, hne]
theorem mCe_hup {a : Nat} {j v : Int} (hne : ¬ a = i) : mCe G ad (hup h i j v) r a = mCe G ad h r a := by
  have e := hup_ne (h := h) (j := j) (v := v) hne
  unfold mCe mAv
  split
  · simp only [e]
  · have : mFv ad (hup h i j v) r a = mFv ad h r a := by
      funext ci k
      simp only [mFv, e]
    rw [this]
theorem mW_hup {j v : Int} (hi : i < r.2) : (mW G ad h r).set i (ad i, mCe G ad (hup h i j v) r i) = mW G ad (hup h i j v) r := by
  apply List.ext_getElem?
  intro a
  by_cases ha : a = i
  · subst ha
    rw [List.getElem?_set_self (by unfold mW; simpa using hi), mW_get hi]
  · rw [List.getElem?_set_ne (Ne.symm ha)]
    by_cases hb : a < r.2
    · rw [mW_get hb, mW_get hb, mCe_hup ha]
    · rw [List.getElem?_eq_none (by unfold mW; simpa using hb), List.getElem?_eq_none (by unfold mW; simpa using hb)]
theorem mCe_rup {a k : Nat} {v : Option Nat} (hne : ¬ a = i) : mCe G ad h (rup r i k v) a = mCe G ad h r a := by
  unfold mCe
  split
  · rfl
  · have : mFv ad h (rup r i k v) a = mFv ad h r a := by
      funext ci b
      simp only [mFv, rup, hne, false_and, if_false]
    rw [this]
theorem mW_rup {k : Nat} {v : Option Nat} (hi : i < r.2) : (mW G ad h r).set i (ad i, mCe G ad h (rup r i k v) i) = mW G ad h (rup r i k v) := by
  apply List.ext_getElem?
  intro a
  have hi' : i < (rup r i k v).2 := hi
  by_cases ha : a = i
  · subst ha
    rw [List.getElem?_set_self (by unfold mW; simpa using hi), mW_get hi']
  · rw [List.getElem?_set_ne (Ne.symm ha)]
    by_cases hb : a < r.2
    · have hb' : a < (rup r i k v).2 := hb
      rw [mW_get hb, mW_get hb', mCe_rup ha]
    · have hb' : ¬ a < (rup r i k v).2 := hb
      rw [List.getElem?_eq_none (by unfold mW; simpa using hb), List.getElem?_eq_none (by unfold mW; simpa using hb')]
theorem mCe_arr {ty : FieldType} {n : Nat} (hk : kd i = .inl (ty, n)) : mCe G ad h r i = .inl (G.2.1 ty, mAv h i ty n) := by
  unfold mCe
  rw [hk]
theorem mCe_obj {ci : Nat} (hk : kd i = .inr ci) : mCe G ad h r i = .inr (ci, (List.range (nfCl ci)).map (mFv ad h r i ci)) := by
  unfold mCe
  rw [hk]
theorem okH.int {j : Int} (hh : okH h) (hj : isJ i = false) : okI (h i j) := by
  have := hh i j
  rw [hj] at this
  exact this
theorem okH.up {j v : Int} (hh : okH h) (hv : if isJ i then okJ v else okI v) : okH (hup h i j v) := by
  intro a b
  unfold hup
  by_cases hab : a = i ∧ b = j
  · rw [if_pos hab, hab.1]
    exact hv
  · rw [if_neg hab]
    exact hh a b
theorem upd_hup {j v : Int} (h0 : 0 ≤ j) : upd (fun b : Nat => Int32.ofInt (h i b)) j.toNat (Int32.ofInt v) = fun b : Nat => Int32.ofInt (hup h i j v i b) := by
  funext b
  unfold upd hup
  by_cases hb : b = j.toNat
  · rw [if_pos hb, if_pos ⟨rfl, by omega⟩]
  · rw [if_neg hb, if_neg (by rintro ⟨-, e⟩; omega)]
theorem updL_hup {j v : Int} (h0 : 0 ≤ j) : vp_updL (fun b : Nat => Int64.ofInt (h i b)) j.toNat (Int64.ofInt v) = fun b : Nat => Int64.ofInt (hup h i j v i b) := by
  funext b
  unfold vp_updL hup
  by_cases hb : b = j.toNat
  · rw [if_pos hb, if_pos ⟨rfl, by omega⟩]
  · rw [if_neg hb, if_neg (by rintro ⟨-, e⟩; omega)]
end MW
def mIn (E : mE) (r : mR) (i : Nat) : Prop := (E.1 = true ∧ i < nIds) ∨ i < r.2
theorem mIn.lt {E : mE} {r : mR} {i : Nat} {G : mG} {ad : Nat → Nat} {h : mH} {H : Heap} (hi : mIn E r i) (hR : mRep G E.1 ad h r H) : i < r.2 := by
  rcases hi with ⟨he, hi⟩ | hi
  · exact Nat.lt_of_lt_of_le hi (hR.2.2.2.1 he).1
  · exact hi
section HP
variable {E : mE} {m : mM} {X : mX} {pc q : Nat} {ls : mL} {st : List mV} {h : mH} {r : mR} {u : mU}
theorem wq_iald {i n : Nat} {x : Int} (hk : kd i = .inl (.int, n)) (hi : mIn E r i) (hd : dc m pc = some (.iaload, 1)) (hq : pc + 1 = q) (h0 : 0 ≤ x) (h1 : x < n) (k : WP E m X q ls (vI (h i x) :: st) h r u) : WP E m X pc ls (vI x :: vR i :: st) h r u := by
  intro G p l e s mid args below meth c Q ad0 n0 hC hX ad H locs lsA hag hn hR hS hL hst
  subst hq
  have hx : okI x := ok_hd hst
  have hi' := hi.lt hR
  have hg : (mW G ad h r)[i]? = some (ad i, .inl (G.2.1 .int, n, .inl fun j => Int32.ofInt (h i j))) := by rw [mW_get hi', mCe_arr hk]; rfl
  refine va_iald hC.1 hC.2.1 hC.2.2.2.2.2.2.2.2.1.1 hR.1 i 0 hg rfl (oi_in hx h0 h1) (mdc hC hd) ?_
  rw [oi_clamp hx h0, Int.toNat_of_nonneg h0]
  exact k G p l e s mid args below meth c Q ad0 n0 hC hX ad H locs lsA hag hn hR hS hL (ok_cons (v := vI (h i x)) (hR.2.2.1.int (by simp only [isJ, hk])) (ok_tl (ok_tl hst)))
theorem wq_zald {i n : Nat} {x : Int} (hk : kd i = .inl (.boolean, n)) (hi : mIn E r i) (hd : dc m pc = some (.baload, 1)) (hq : pc + 1 = q) (h0 : 0 ≤ x) (h1 : x < n) (k : WP E m X q ls (vI (h i x) :: st) h r u) : WP E m X pc ls (vI x :: vR i :: st) h r u := by
  intro G p l e s mid args below meth c Q ad0 n0 hC hX ad H locs lsA hag hn hR hS hL hst
  subst hq
  have hx : okI x := ok_hd hst
  have hi' := hi.lt hR
  have hg : (mW G ad h r)[i]? = some (ad i, .inl (G.2.1 .boolean, n, .inl fun j => Int32.ofInt (h i j))) := by rw [mW_get hi', mCe_arr hk]; rfl
  refine va_zald hC.1 hC.2.1 hC.2.2.2.2.2.2.2.2.1.1 hR.1 i 2 hg rfl (oi_in hx h0 h1) (mdc hC hd) ?_
  rw [oi_clamp hx h0, Int.toNat_of_nonneg h0]
  exact k G p l e s mid args below meth c Q ad0 n0 hC hX ad H locs lsA hag hn hR hS hL (ok_cons (v := vI (h i x)) (hR.2.2.1.int (by simp only [isJ, hk])) (ok_tl (ok_tl hst)))
theorem wq_bald {i n : Nat} {x : Int} (hk : kd i = .inl (.byte, n)) (hi : mIn E r i) (hd : dc m pc = some (.baload, 1)) (hq : pc + 1 = q) (h0 : 0 ≤ x) (h1 : x < n) (k : WP E m X q ls (vI (h i x) :: st) h r u) : WP E m X pc ls (vI x :: vR i :: st) h r u := by
  intro G p l e s mid args below meth c Q ad0 n0 hC hX ad H locs lsA hag hn hR hS hL hst
  subst hq
  have hx : okI x := ok_hd hst
  have hi' := hi.lt hR
  have hg : (mW G ad h r)[i]? = some (ad i, .inl (G.2.1 .byte, n, .inl fun j => Int32.ofInt (h i j))) := by rw [mW_get hi', mCe_arr hk]; rfl
  refine va_bald hC.1 hC.2.1 hC.2.2.2.2.2.2.2.2.1.1 hR.1 i 1 hg rfl (oi_in hx h0 h1) (mdc hC hd) ?_
  rw [oi_clamp hx h0, Int.toNat_of_nonneg h0]
  exact k G p l e s mid args below meth c Q ad0 n0 hC hX ad H locs lsA hag hn hR hS hL (ok_cons (v := vI (h i x)) (hR.2.2.1.int (by simp only [isJ, hk])) (ok_tl (ok_tl hst)))
theorem wq_lald {i n : Nat} {x : Int} (hk : kd i = .inl (.long, n)) (hi : mIn E r i) (hd : dc m pc = some (.laload, 1)) (hq : pc + 1 = q) (h0 : 0 ≤ x) (h1 : x < n) (k : WP E m X q ls (vJ (h i x) :: st) h r u) : WP E m X pc ls (vI x :: vR i :: st) h r u := by
  intro G p l e s mid args below meth c Q ad0 n0 hC hX ad H locs lsA hag hn hR hS hL hst
  subst hq
  have hx : okI x := ok_hd hst
  have hi' := hi.lt hR
  have hg : (mW G ad h r)[i]? = some (ad i, .inl (G.2.1 .long, n, .inr (.inl fun j => Int64.ofInt (h i j)))) := by rw [mW_get hi', mCe_arr hk]; rfl
  refine va_lald hC.1 hC.2.1 hC.2.2.2.2.2.2.2.2.1.1 hR.1 i 3 hg rfl (oi_in hx h0 h1) (mdc hC hd) ?_
  rw [oi_clamp hx h0, Int.toNat_of_nonneg h0]
  exact k G p l e s mid args below meth c Q ad0 n0 hC hX ad H locs lsA hag hn hR hS hL (ok_cons (v := vJ (h i x)) (by have := hR.2.2.1 i x; simp only [isJ, hk, if_true] at this; exact this) (ok_tl (ok_tl hst)))
theorem mRep.up {G : mG} {g : Bool} {ad : Nat → Nat} {H H1 : Heap} {i : Nat} {j v : Int} (hR : mRep G g ad h r H) (hi : i < r.2) (hv : if isJ i then okJ v else okI v) (h1 : va_P G.1 vwCl ((mW G ad h r).set i (ad i, mCe G ad (hup h i j v) r i)) H1) (h2 : va_D (mA G) ((mW G ad h r).set i (ad i, mCe G ad (hup h i j v) r i))) : mRep G g ad (hup h i j v) r H1 := by
  rw [mW_hup hi] at h1 h2
  exact ⟨h1, h2, hR.2.2.1.up hv, hR.2.2.2⟩
theorem wq_iast {i n : Nat} {x v : Int} (hk : kd i = .inl (.int, n)) (hi : mIn E r i) (hd : dc m pc = some (.iastore, 1)) (hq : pc + 1 = q) (h0 : 0 ≤ x) (h1 : x < n) (k : WP E m X q ls st (hup h i x v) r u) : WP E m X pc ls (vI v :: vI x :: vR i :: st) h r u := by
  intro G p l e s mid args below meth c Q ad0 n0 hC hX ad H locs lsA hag hn hR hS hL hst
  subst hq
  have hv : okI v := ok_hd hst
  have hx : okI x := ok_hd (ok_tl hst)
  have hi' := hi.lt hR
  have hg : (mW G ad h r)[i]? = some (ad i, .inl (G.2.1 .int, n, .inl fun j => Int32.ofInt (h i j))) := by rw [mW_get hi', mCe_arr hk]; rfl
  refine va_iast hC.1 hC.2.1 hC.2.2.2.2.2.2.2.2.1.1 hR.1 hR.2.1 hS i 0 hg rfl (oi_in hx h0 h1) (mdc hC hd) (fun H1 locs1 a1 a2 a3 => ?_)
  have e1 : (.inl (G.2.1 .int, n, .inl (upd (fun j : Nat => Int32.ofInt (h i j)) (Int32.ofInt x).toNatClampNeg (Int32.ofInt v))) : va_E) = mCe G ad (hup h i x v) r i := by
    rw [mCe_arr hk, oi_clamp hx h0, upd_hup h0]; rfl
  rw [e1] at a1 a2
  exact k G p l e s mid args below meth c Q ad0 n0 hC hX ad H1 locs1 lsA hag hn (hR.up hi' (by simp only [isJ, hk]; exact hv) a1 a2) a3 hL (ok_tl (ok_tl (ok_tl hst)))
theorem wq_zast {i n : Nat} {x v : Int} (hk : kd i = .inl (.boolean, n)) (hi : mIn E r i) (hd : dc m pc = some (.bastore, 1)) (hq : pc + 1 = q) (h0 : 0 ≤ x) (h1 : x < n) (hz : v = 0 ∨ v = 1) (k : WP E m X q ls st (hup h i x v) r u) : WP E m X pc ls (vI v :: vI x :: vR i :: st) h r u := by
  intro G p l e s mid args below meth c Q ad0 n0 hC hX ad H locs lsA hag hn hR hS hL hst
  subst hq
  have hv : okI v := ok_hd hst
  have hx : okI x := ok_hd (ok_tl hst)
  have hi' := hi.lt hR
  have hg : (mW G ad h r)[i]? = some (ad i, .inl (G.2.1 .boolean, n, .inl fun j => Int32.ofInt (h i j))) := by rw [mW_get hi', mCe_arr hk]; rfl
  refine va_zast hC.1 hC.2.1 hC.2.2.2.2.2.2.2.2.1.1 hR.1 hR.2.1 hS i 2 hg rfl (oi_in hx h0 h1) (mdc hC hd) (fun H1 locs1 a1 a2 a3 => ?_)
  have e0 : vp_nar .boolean (Int32.ofInt v) = Int32.ofInt v := by rcases hz with rfl | rfl <;> decide
  have e1 : (.inl (G.2.1 .boolean, n, .inl (upd (fun j : Nat => Int32.ofInt (h i j)) (Int32.ofInt x).toNatClampNeg (vp_nar .boolean (Int32.ofInt v)))) : va_E) = mCe G ad (hup h i x v) r i := by
    rw [mCe_arr hk, oi_clamp hx h0, e0, upd_hup h0]; rfl
  rw [e1] at a1 a2
  exact k G p l e s mid args below meth c Q ad0 n0 hC hX ad H1 locs1 lsA hag hn (hR.up hi' (by simp only [isJ, hk]; exact hv) a1 a2) a3 hL (ok_tl (ok_tl (ok_tl hst)))
theorem wq_bast {i n : Nat} {x v : Int} (hk : kd i = .inl (.byte, n)) (hi : mIn E r i) (hd : dc m pc = some (.bastore, 1)) (hq : pc + 1 = q) (h0 : 0 ≤ x) (h1 : x < n) (hz : -128 ≤ v ∧ v ≤ 127) (k : WP E m X q ls st (hup h i x v) r u) : WP E m X pc ls (vI v :: vI x :: vR i :: st) h r u := by
  intro G p l e s mid args below meth c Q ad0 n0 hC hX ad H locs lsA hag hn hR hS hL hst
  subst hq
  have hv : okI v := ok_hd hst
  have hx : okI x := ok_hd (ok_tl hst)
  have hi' := hi.lt hR
  have hg : (mW G ad h r)[i]? = some (ad i, .inl (G.2.1 .byte, n, .inl fun j => Int32.ofInt (h i j))) := by rw [mW_get hi', mCe_arr hk]; rfl
  refine va_bast hC.1 hC.2.1 hC.2.2.2.2.2.2.2.2.1.1 hR.1 hR.2.1 hS i 1 hg rfl (oi_in hx h0 h1) (mdc hC hd) (fun H1 locs1 a1 a2 a3 => ?_)
  have e0 : vp_nar .byte (Int32.ofInt v) = Int32.ofInt v := by
    rw [vp_nar_byte, ← Int32.toInt_inj, Int8.toInt_toInt32, Int32.toInt_toInt8, oi_toInt hv]
    rw [Int.bmod_eq_of_le] <;> omega
  have e1 : (.inl (G.2.1 .byte, n, .inl (upd (fun j : Nat => Int32.ofInt (h i j)) (Int32.ofInt x).toNatClampNeg (vp_nar .byte (Int32.ofInt v)))) : va_E) = mCe G ad (hup h i x v) r i := by
    rw [mCe_arr hk, oi_clamp hx h0, e0, upd_hup h0]; rfl
  rw [e1] at a1 a2
  exact k G p l e s mid args below meth c Q ad0 n0 hC hX ad H1 locs1 lsA hag hn (hR.up hi' (by simp only [isJ, hk]; exact hv) a1 a2) a3 hL (ok_tl (ok_tl (ok_tl hst)))
theorem wq_last {i n : Nat} {x v : Int} (hk : kd i = .inl (.long, n)) (hi : mIn E r i) (hd : dc m pc = some (.lastore, 1)) (hq : pc + 1 = q) (h0 : 0 ≤ x) (h1 : x < n) (k : WP E m X q ls st (hup h i x v) r u) : WP E m X pc ls (vJ v :: vI x :: vR i :: st) h r u := by
  intro G p l e s mid args below meth c Q ad0 n0 hC hX ad H locs lsA hag hn hR hS hL hst
  subst hq
  have hv : okJ v := ok_hd hst
  have hx : okI x := ok_hd (ok_tl hst)
  have hi' := hi.lt hR
  have hg : (mW G ad h r)[i]? = some (ad i, .inl (G.2.1 .long, n, .inr (.inl fun j => Int64.ofInt (h i j)))) := by rw [mW_get hi', mCe_arr hk]; rfl
  refine va_last hC.1 hC.2.1 hC.2.2.2.2.2.2.2.2.1.1 hR.1 hR.2.1 hS i 3 hg rfl (oi_in hx h0 h1) (mdc hC hd) (fun H1 locs1 a1 a2 a3 => ?_)
  have e1 : (.inl (G.2.1 .long, n, .inr (.inl (vp_updL (fun j : Nat => Int64.ofInt (h i j)) (Int32.ofInt x).toNatClampNeg (Int64.ofInt v)))) : va_E) = mCe G ad (hup h i x v) r i := by
    rw [mCe_arr hk, oi_clamp hx h0, updL_hup h0]; rfl
  rw [e1] at a1 a2
  exact k G p l e s mid args below meth c Q ad0 n0 hC hX ad H1 locs1 lsA hag hn (hR.up hi' (by simp only [isJ, hk, if_true]; exact hv) a1 a2) a3 hL (ok_tl (ok_tl (ok_tl hst)))
theorem wq_alenI {i n : Nat} (hk : kd i = .inl (.int, n)) (hi : mIn E r i) (hd : dc m pc = some (.arraylength, 1)) (hq : pc + 1 = q) (ho : okb n = true) (k : WP E m X q ls (vI n :: st) h r u) : WP E m X pc ls (vR i :: st) h r u := by
  intro G p l e s mid args below meth c Q ad0 n0 hC hX ad H locs lsA hag hn hR hS hL hst
  subst hq
  have hi' := hi.lt hR
  have hg : (mW G ad h r)[i]? = some (ad i, .inl (G.2.1 .int, n, .inl fun j => Int32.ofInt (h i j))) := by rw [mW_get hi', mCe_arr hk]; rfl
  exact va_alen hC.1 hC.2.1 hC.2.2.2.2.2.2.2.2.1.1 hR.1 i 0 hg rfl rfl (mdc hC hd) (k G p l e s mid args below meth c Q ad0 n0 hC hX ad H locs lsA hag hn hR hS hL (ok_cons (v := vI n) (okb_spec ho) (ok_tl hst)))
theorem wq_alenB {i n : Nat} (hk : kd i = .inl (.byte, n)) (hi : mIn E r i) (hd : dc m pc = some (.arraylength, 1)) (hq : pc + 1 = q) (ho : okb n = true) (k : WP E m X q ls (vI n :: st) h r u) : WP E m X pc ls (vR i :: st) h r u := by
  intro G p l e s mid args below meth c Q ad0 n0 hC hX ad H locs lsA hag hn hR hS hL hst
  subst hq
  have hi' := hi.lt hR
  have hg : (mW G ad h r)[i]? = some (ad i, .inl (G.2.1 .byte, n, .inl fun j => Int32.ofInt (h i j))) := by rw [mW_get hi', mCe_arr hk]; rfl
  exact va_alen hC.1 hC.2.1 hC.2.2.2.2.2.2.2.2.1.1 hR.1 i 1 hg rfl rfl (mdc hC hd) (k G p l e s mid args below meth c Q ad0 n0 hC hX ad H locs lsA hag hn hR hS hL (ok_cons (v := vI n) (okb_spec ho) (ok_tl hst)))
theorem nf_of {ci : Nat} {C : String} {T : u_T} {N : Nat} (hc : vwCl[ci]? = some (C, T, N)) : nfCl ci = N := by unfold nfCl; rw [hc]
theorem wq_getA {i ci kf idx : Nat} (hf : mFL m.1.cls idx ci kf) (hk : kd i = .inr ci) (hi : mIn E r i) (hd : dc m pc = some (.getfield idx, 3)) (v : mV) (hq : pc + 3 = q) (hv : ∀ (G : mG) (ad : Nat → Nat) (H : Heap), mRep G E.1 ad h r H → mFv ad h r i ci kf = toV ad v ∧ okV r.2 v) (k : WP E m X q ls (v :: st) h r u) : WP E m X pc ls (vR i :: st) h r u := by
  intro G p l e s mid args below meth c Q ad0 n0 hC hX ad H locs lsA hag hn hR hS hL hst
  subst hq
  have hi' := hi.lt hR
  obtain ⟨C, T, N, hc, hkN, hlk, hTC⟩ := hf
  have hg : (mW G ad h r)[i]? = some (ad i, .inr (ci, (List.range (nfCl ci)).map (mFv ad h r i ci))) := by rw [mW_get hi', mCe_obj hk]
  obtain ⟨e1, e2⟩ := hv G ad H hR
  refine va_get hC.1 hC.2.1 hC.2.2.2.2.2.2.2.1 (ok_cl ci _ hc).1 hC.2.2.2.2.1 hC.2.2.2.2.2.2.2.2.1.1 hR.1 i hg hc kf hkN (hC.2.2.2.2.2.2.2.1 _ hlk) (fun x hx => by rw [hTC] at hx; exact hx) (v := toV ad v) (by rw [nf_of hc, List.getElem?_map, List.getElem?_range hkN, ← e1]; rfl) (mdc hC hd) ?_
  exact k G p l e s mid args below meth c Q ad0 n0 hC hX ad H locs lsA hag hn hR hS hL (ok_cons e2 (ok_tl hst))
theorem wq_getI {i ci kf idx : Nat} {kz : Int} (hkz : (kf : Int) = kz) (hf : mFL m.1.cls idx ci kf) (hk : kd i = .inr ci) (ht : isRf (tyCl ci kf) = false) (hi : mIn E r i) (hd : dc m pc = some (.getfield idx, 3)) (hq : pc + 3 = q) (k : WP E m X q ls (vI (h i kz) :: st) h r u) : WP E m X pc ls (vR i :: st) h r u := by
  subst hkz
  exact wq_getA hf hk hi hd (vI (h i kf)) hq (fun G ad H hR => ⟨by unfold mFv; rw [ht]; rfl, hR.2.2.1.int (by simp only [isJ, hk])⟩) k
theorem wq_getR {i ci kf idx t : Nat} (hf : mFL m.1.cls idx ci kf) (hk : kd i = .inr ci) (ht : isRf (tyCl ci kf) = true) (hi : mIn E r i) (hr : r.1 i kf = some t) (hd : dc m pc = some (.getfield idx, 3)) (hq : pc + 3 = q) (k : WP E m X q ls (vR t :: st) h r u) : WP E m X pc ls (vR i :: st) h r u :=
  wq_getA hf hk hi hd (vR t) hq (fun G ad H hR => ⟨by unfold mFv; rw [ht, hr]; rfl, Or.inl (hR.2.2.2.2.1 _ _ _ hr)⟩) k
theorem wq_getF {R : Room} {i ci kf idx t : Nat} (hf : mFL m.1.cls idx ci kf) (hk : kd i = .inr ci) (ht : isRf (tyCl ci kf) = true) (hi : i < nIds) (hr : rfq i kf = some t) (hd : dc m pc = some (.getfield idx, 3)) (hq : pc + 3 = q) (k : WP (true, R) m X q ls (vR t :: st) h r u) : WP (true, R) m X pc ls (vR i :: st) h r u :=
  wq_getA hf hk (Or.inl ⟨rfl, hi⟩) hd (vR t) hq (fun G ad H hR => ⟨by unfold mFv; rw [ht, rfq_spec (hR.2.2.2.1 rfl) hr]; rfl, Or.inl (hR.2.2.2.2.1 _ _ _ (rfq_spec (hR.2.2.2.1 rfl) hr))⟩) k
theorem fs_set {ad : Nat → Nat} {i ci kf : Nat} {N : Nat} {v : Value} {h' : mH} {r' : mR} (hkN : kf < N) (hv : mFv ad h' r' i ci kf = v) (ho : ∀ b, ¬ b = kf → mFv ad h' r' i ci b = mFv ad h r i ci b) : ((List.range N).map (mFv ad h r i ci)).set kf v = (List.range N).map (mFv ad h' r' i ci) := by
  apply List.ext_getElem?
  intro a
  by_cases ha : a = kf
  · subst ha
    rw [List.getElem?_set_self (by simpa using hkN), List.getElem?_map, List.getElem?_range hkN, ← hv]; rfl
  · rw [List.getElem?_set_ne (Ne.symm ha), List.getElem?_map, List.getElem?_map]
    by_cases hb : a < N
    · rw [List.getElem?_range hb]; simp only [Option.map_some, ho a ha]
    · rw [List.getElem?_eq_none (by simpa using hb)]; rfl
theorem fs_hup {ad : Nat → Nat} {i ci kf N : Nat} {v : Int} (hkN : kf < N) (ht : isRf (tyCl ci kf) = false) : ((List.range N).map (mFv ad h r i ci)).set kf (.int (Int32.ofInt v)) = (List.range N).map (mFv ad (hup h i kf v) r i ci) := by
  refine fs_set hkN ?_ (fun b hb => ?_)
  · unfold mFv; rw [ht]; simp [hup]
  · unfold mFv
    rw [show hup h i kf v i b = h i b from by unfold hup; rw [if_neg (by rintro ⟨-, e⟩; omega)]]
theorem fs_rup {ad : Nat → Nat} {i ci kf N : Nat} {v : Option Nat} (hkN : kf < N) (ht : isRf (tyCl ci kf) = true) : ((List.range N).map (mFv ad h r i ci)).set kf (toV ad (.inr (.inr v))) = (List.range N).map (mFv ad h (rup r i kf v) i ci) := by
  refine fs_set hkN ?_ (fun b hb => ?_)
  · unfold mFv; rw [ht]; simp [rup]
  · unfold mFv; simp [rup, hb]
theorem fin_of {ci kf : Nat} {C : String} {T : u_T} {N : Nat} (hc : vwCl[ci]? = some (C, T, N)) : finCl ci kf = (T kf).2.2.2 := by unfold finCl; rw [hc]
theorem wq_putI {i ci kf idx : Nat} {v kz : Int} (hkz : (kf : Int) = kz) (hf : mFL m.1.cls idx ci kf) (hk : kd i = .inr ci) (ht : tyCl ci kf = .int) (hfin : finCl ci kf = false) (hi : mIn E r i) (hd : dc m pc = some (.putfield idx, 3)) (hq : pc + 3 = q) (k : WP E m X q ls st (hup h i kz v) r u) : WP E m X pc ls (vI v :: vR i :: st) h r u := by
  subst hkz
  intro G p l e s mid args below meth c Q ad0 n0 hC hX ad H locs lsA hag hn hR hS hL hst
  subst hq
  have hi' := hi.lt hR
  have hv : okI v := ok_hd hst
  obtain ⟨C, T, N, hc, hkN, hlk, hTC⟩ := hf
  have hg : (mW G ad h r)[i]? = some (ad i, .inr (ci, (List.range (nfCl ci)).map (mFv ad h r i ci))) := by rw [mW_get hi', mCe_obj hk]
  obtain ⟨o1, o2, o3⟩ := ok_cl ci _ hc
  refine va_put hC.1 hC.2.1 hC.2.2.2.2.2.2.2.1 o1 (tyCl ci) o3 o2 hC.2.2.2.2.1 hC.2.2.2.2.2.2.2.2.1.1 hR.1 hR.2.1 hS i hg hc kf hkN (hC.2.2.2.2.2.2.2.1 _ hlk) (fun x hx => by rw [hTC] at hx; exact hx) (by rw [← fin_of hc]; exact hfin) (ty := .int) (v := .int (Int32.ofInt v)) (by rw [o3 kf hkN, ht]) rfl rfl (by rw [nf_of hc]; simpa using hkN) (mdc hC hd) (fun H1 locs1 a1 a2 a3 => ?_)
  rw [nf_of hc, fs_hup hkN (by rw [ht]; rfl), ← nf_of hc, ← mCe_obj (G := G) hk] at a1 a2
  exact k G p l e s mid args below meth c Q ad0 n0 hC hX ad H1 locs1 lsA hag hn (hR.up hi' (by simp only [isJ, hk]; exact hv) a1 a2) a3 hL (ok_tl (ok_tl hst))
theorem wq_putZ {i ci kf idx : Nat} {v kz : Int} (hkz : (kf : Int) = kz) (hf : mFL m.1.cls idx ci kf) (hk : kd i = .inr ci) (ht : tyCl ci kf = .boolean) (hfin : finCl ci kf = false) (hi : mIn E r i) (hd : dc m pc = some (.putfield idx, 3)) (hq : pc + 3 = q) (hz : v = 0 ∨ v = 1) (k : WP E m X q ls st (hup h i kz v) r u) : WP E m X pc ls (vI v :: vR i :: st) h r u := by
  subst hkz
  intro G p l e s mid args below meth c Q ad0 n0 hC hX ad H locs lsA hag hn hR hS hL hst
  subst hq
  have hi' := hi.lt hR
  have hv : okI v := ok_hd hst
  obtain ⟨C, T, N, hc, hkN, hlk, hTC⟩ := hf
  have hg : (mW G ad h r)[i]? = some (ad i, .inr (ci, (List.range (nfCl ci)).map (mFv ad h r i ci))) := by rw [mW_get hi', mCe_obj hk]
  obtain ⟨o1, o2, o3⟩ := ok_cl ci _ hc
  refine va_put hC.1 hC.2.1 hC.2.2.2.2.2.2.2.1 o1 (tyCl ci) o3 o2 hC.2.2.2.2.1 hC.2.2.2.2.2.2.2.2.1.1 hR.1 hR.2.1 hS i hg hc kf hkN (hC.2.2.2.2.2.2.2.1 _ hlk) (fun x hx => by rw [hTC] at hx; exact hx) (by rw [← fin_of hc]; exact hfin) (ty := .boolean) (v := .int (Int32.ofInt v)) (by rw [o3 kf hkN, ht]) (by rcases hz with rfl | rfl <;> decide) (by rcases hz with rfl | rfl <;> decide) (by rw [nf_of hc]; simpa using hkN) (mdc hC hd) (fun H1 locs1 a1 a2 a3 => ?_)
  rw [nf_of hc, fs_hup hkN (by rw [ht]; rfl), ← nf_of hc, ← mCe_obj (G := G) hk] at a1 a2
  exact k G p l e s mid args below meth c Q ad0 n0 hC hX ad H1 locs1 lsA hag hn (hR.up hi' (by simp only [isJ, hk]; exact hv) a1 a2) a3 hL (ok_tl (ok_tl hst))
theorem mRep.rup {G : mG} {g : Bool} {ad : Nat → Nat} {H H1 : Heap} {i k : Nat} {v : Option Nat} (hR : mRep G g ad h r H) (hi : i < r.2) (hg : g = true → rfq i k = none) (hv : ∀ t, v = some t → t < r.2) (h1 : va_P G.1 vwCl ((mW G ad h r).set i (ad i, mCe G ad h (rup r i k v) i)) H1) (h2 : va_D (mA G) ((mW G ad h r).set i (ad i, mCe G ad h (rup r i k v) i))) : mRep G g ad h (rup r i k v) H1 := by
  rw [mW_rup hi] at h1 h2
  obtain ⟨-, -, h3, h4, h5, h6, h7⟩ := hR
  exact ⟨h1, h2, h3, fun e => (h4 e).up (hg e), h5.up hv, h6, h7⟩
theorem rf_nar {ty : FieldType} {ad : Nat → Nat} {v : Option Nat} (h : isRf ty = true) : narrow ty (toV ad (.inr (.inr v))) = toV ad (.inr (.inr v)) ∧ fits ty (toV ad (.inr (.inr v))) = true := by
  cases v <;> cases ty <;> first | exact ⟨rfl, rfl⟩ | (simp [isRf] at h)
theorem wq_putR {i ci kf idx t : Nat} (hf : mFL m.1.cls idx ci kf) (hk : kd i = .inr ci) (ht : isRf (tyCl ci kf) = true) (hfin : finCl ci kf = false) (hi : mIn E r i) (hti : mIn E r t) (hg : E.1 = true → rfq i kf = none) (hd : dc m pc = some (.putfield idx, 3)) (hq : pc + 3 = q) (k : WP E m X q ls st h (rup r i kf (some t)) u) : WP E m X pc ls (vR t :: vR i :: st) h r u := by
  intro G p l e s mid args below meth c Q ad0 n0 hC hX ad H locs lsA hag hn hR hS hL hst
  subst hq
  have hi' := hi.lt hR
  have ht' := hti.lt hR
  obtain ⟨C, T, N, hc, hkN, hlk, hTC⟩ := hf
  have hge : (mW G ad h r)[i]? = some (ad i, .inr (ci, (List.range (nfCl ci)).map (mFv ad h r i ci))) := by rw [mW_get hi', mCe_obj hk]
  obtain ⟨o1, o2, o3⟩ := ok_cl ci _ hc
  obtain ⟨z1, z2⟩ := rf_nar (ad := ad) (v := some t) ht
  refine va_put hC.1 hC.2.1 hC.2.2.2.2.2.2.2.1 o1 (tyCl ci) o3 o2 hC.2.2.2.2.1 hC.2.2.2.2.2.2.2.2.1.1 hR.1 hR.2.1 hS i hge hc kf hkN (hC.2.2.2.2.2.2.2.1 _ hlk) (fun x hx => by rw [hTC] at hx; exact hx) (by rw [← fin_of hc]; exact hfin) (ty := tyCl ci kf) (v := toV ad (vR t)) (by rw [o3 kf hkN]) z1 z2 (by rw [nf_of hc]; simpa using hkN) (mdc hC hd) (fun H1 locs1 a1 a2 a3 => ?_)
  rw [nf_of hc, fs_rup hkN ht, ← nf_of hc, ← mCe_obj (G := G) hk] at a1 a2
  exact k G p l e s mid args below meth c Q ad0 n0 hC hX ad H1 locs1 lsA hag hn (hR.rup hi' hg (fun a ha => by cases ha; exact ht') a1 a2) a3 hL (ok_tl (ok_tl hst))
/-- a final field, in its class's constructor -/
theorem wq_putF {i ci kf idx t : Nat} (hf : mFL m.1.cls idx ci kf) (hk : kd i = .inr ci) (ht : isRf (tyCl ci kf) = true) (hfin : finCl ci kf = true) (hin : m.1.name = "<init>") (hown : (vwCl[ci]?).map (fun q => q.1) = some m.1.cls) (hi : mIn E r i) (hti : mIn E r t) (hg : E.1 = true → rfq i kf = none) (hd : dc m pc = some (.putfield idx, 3)) (hq : pc + 3 = q) (k : WP E m X q ls st h (rup r i kf (some t)) u) : WP E m X pc ls (vR t :: vR i :: st) h r u := by
  intro G p l e s mid args below meth c Q ad0 n0 hC hX ad H locs lsA hag hn hR hS hL hst
  subst hq
  have hi' := hi.lt hR
  have ht' := hti.lt hR
  obtain ⟨C, T, N, hc, hkN, hlk, hTC⟩ := hf
  have hge : (mW G ad h r)[i]? = some (ad i, .inr (ci, (List.range (nfCl ci)).map (mFv ad h r i ci))) := by rw [mW_get hi', mCe_obj hk]
  obtain ⟨o1, o2, o3⟩ := ok_cl ci _ hc
  obtain ⟨z1, z2⟩ := rf_nar (ad := ad) (v := some t) ht
  rw [hc] at hown
  have hCo : C = m.1.cls := Option.some.inj hown
  refine va_putF hC.1 hC.2.1 hC.2.2.2.2.2.2.2.1 o1 (tyCl ci) o3 o2 hC.2.2.2.2.1 hC.2.2.2.2.2.2.2.2.1.1 hR.1 hR.2.1 hS i hge hc kf hkN (hC.2.2.2.2.2.2.2.1 _ hlk) (fun x hx => by rw [hTC] at hx; exact hx) (by rw [← fin_of hc]; exact hfin) (by rw [hC.2.2.2.2.2.2.1]; exact hin) (hTC.trans hCo) (ty := tyCl ci kf) (v := toV ad (vR t)) (by rw [o3 kf hkN]) z1 z2 (by rw [nf_of hc]; simpa using hkN) (mdc hC hd) (fun H1 locs1 a1 a2 a3 => ?_)
  rw [nf_of hc, fs_rup hkN ht, ← nf_of hc, ← mCe_obj (G := G) hk] at a1 a2
  exact k G p l e s mid args below meth c Q ad0 n0 hC hX ad H1 locs1 lsA hag hn (hR.rup hi' hg (fun a ha => by cases ha; exact ht') a1 a2) a3 hL (ok_tl (ok_tl hst))
end HP

/-! THE PURE MACHINE: values are whole numbers and cell numbers; a state is what the int fields and arrays hold (h), what the reference fields hold and how many cells there are (r) -/
abbrev mV : Type := Int ⊕ (Int ⊕ Option Nat)
abbrev mH : Type := Nat → Int → Int
abbrev mR : Type := (Nat → Nat → Option Nat) × Nat
abbrev mL : Type := List (Option mV)
abbrev mU : Type := Nat × Nat
abbrev mE : Type := Bool × Room
abbrev mX : Type := Nat → mL → List mV → mH → mR → mU → Prop
/-- D, the array classes, where the system's cells begin, the literals' Strings and byte arrays, the script -/
abbrev mG : Type := va_G × (FieldType → ClassId) × Nat × (Nat → Nat) × (Nat → Nat) × (Nat × Nat × (Nat → Int32) × Nat)
abbrev vI (x : Int) : mV := .inl x
abbrev vJ (x : Int) : mV := .inr (.inl x)
abbrev vR (i : Nat) : mV := .inr (.inr (some i))
abbrev vN : mV := .inr (.inr none)
abbrev sBase : Nat := 100000
abbrev sScr : Nat := 200000
def toV (ad : Nat → Nat) : mV → Value
  | .inl x => .int (Int32.ofInt x)
  | .inr (.inl x) => .long (Int64.ofInt x)
  | .inr (.inr none) => .null
  | .inr (.inr (some i)) => .ref (ad i)
def okI (x : Int) : Prop := -2147483648 ≤ x ∧ x ≤ 2147483647
def okJ (x : Int) : Prop := -9223372036854775808 ≤ x ∧ x ≤ 9223372036854775807
def okV (b : Nat) : mV → Prop
  | .inl x => okI x
  | .inr (.inl x) => okJ x
  | .inr (.inr none) => True
  | .inr (.inr (some t)) => t < b ∨ sBase ≤ t
theorem okV.mono {a b : Nat} {v : mV} (h : okV a v) (hab : a ≤ b) : okV b v := by
  rcases v with x | x | _ | t
  · exact h
  · exact h
  · exact h
  · exact h.elim (fun z => Or.inl (Nat.lt_of_lt_of_le z hab)) Or.inr
theorem oi_toInt {x : Int} (h : okI x) : (Int32.ofInt x).toInt = x := by
  unfold okI at h
  rw [Int32.toInt_ofInt]
  rw [Int.bmod_eq_of_le] <;> simp only [Int32.size] at * <;> omega
theorem oj_toInt {x : Int} (h : okJ x) : (Int64.ofInt x).toInt = x := by
  unfold okJ at h
  rw [Int64.toInt_ofInt]
  rw [Int.bmod_eq_of_le] <;> simp only [Int64.size] at * <;> omega
theorem oi_of (v : Int32) : okI v.toInt := by
  have h1 := Int32.le_toInt v
  have h2 := Int32.toInt_lt v
  unfold okI
  omega
theorem oj_of (v : Int64) : okJ v.toInt := by
  have h1 := Int64.le_toInt v
  have h2 := Int64.toInt_lt v
  unfold okJ
  omega
theorem oi_rt (v : Int32) : Int32.ofInt v.toInt = v := by simp
theorem oj_rt (v : Int64) : Int64.ofInt v.toInt = v := by simp
theorem oi_lt {x y : Int} (hx : okI x) (hy : okI y) : Int32.ofInt x < Int32.ofInt y ↔ x < y := by rw [Int32.lt_iff_toInt_lt, oi_toInt hx, oi_toInt hy]
theorem oi_le {x y : Int} (hx : okI x) (hy : okI y) : Int32.ofInt x ≤ Int32.ofInt y ↔ x ≤ y := by rw [Int32.le_iff_toInt_le, oi_toInt hx, oi_toInt hy]
theorem oi_eq {x y : Int} (hx : okI x) (hy : okI y) : Int32.ofInt x = Int32.ofInt y ↔ x = y := by rw [← Int32.toInt_inj, oi_toInt hx, oi_toInt hy]
theorem oi_0 : okI 0 := by unfold okI; omega
theorem oi_zero : (0 : Int32) = Int32.ofInt 0 := by decide
theorem oi_clamp {x : Int} (hx : okI x) (h0 : 0 ≤ x) : (Int32.ofInt x).toNatClampNeg = x.toNat := by
  show (Int32.ofInt x).toInt.toNat = _
  rw [oi_toInt hx]
theorem oi_in {x : Int} {n : Nat} (hx : okI x) (h0 : 0 ≤ x) (h1 : x < n) : vp_in (Int32.ofInt x) n := by
  rw [vp_in_iff, oi_toInt hx]; omega
/-- wrap-around -/
def wr (x : Int) : Int := x.bmod 4294967296
theorem wr_ok (x : Int) : okI (wr x) := by
  have h1 := Int.le_bmod (x := x) (m := 4294967296) (by omega)
  have h2 := Int.bmod_lt (x := x) (m := 4294967296) (by omega)
  unfold okI wr
  omega
theorem wr_id {x : Int} (h : okI x) : wr x = x := by
  unfold okI at h
  unfold wr
  rw [Int.bmod_eq_of_le] <;> omega
theorem wr_of (x : Int) : Int32.ofInt (wr x) = Int32.ofInt x := by
  rw [← Int32.toInt_inj, oi_toInt (wr_ok x), Int32.toInt_ofInt]; rfl
/-- what a cell holds, as the kit has it -/
def isRf : FieldType → Bool
  | .object _ => true
  | .array _ => true
  | _ => false
def mFv (ad : Nat → Nat) (h : mH) (r : mR) (i ci k : Nat) : Value := if isRf (tyCl ci k) then toV ad (.inr (.inr (r.1 i k))) else .int (Int32.ofInt (h i k))
def nfCl (ci : Nat) : Nat := match vwCl[ci]? with
  | some q => q.2.2
  | none => 0
def mAv (h : mH) (i : Nat) (ty : FieldType) (n : Nat) : vp_A := match ty with
  | .long => (n, .inr (.inl fun j => Int64.ofInt (h i j)))
  | _ => (n, .inl fun j => Int32.ofInt (h i j))
def mCe (G : mG) (ad : Nat → Nat) (h : mH) (r : mR) (i : Nat) : va_E := match kd i with
  | .inl (ty, n) => .inl (G.2.1 ty, mAv h i ty n)
  | .inr ci => .inr (ci, (List.range (nfCl ci)).map (mFv ad h r i ci))
def mW (G : mG) (ad : Nat → Nat) (h : mH) (r : mR) : va_W := (List.range r.2).map fun i => (ad i, mCe G ad h r i)
def isJ (i : Nat) : Bool := match kd i with
  | .inl (.long, _) => true
  | _ => false
def okH (h : mH) : Prop := ∀ (i : Nat) (j : Int), if isJ i then okJ (h i j) else okI (h i j)
/-- the system is made: what was set once stands -/
def rfOK (r : mR) : Prop := nIds ≤ r.2 ∧ ∀ i k t, rfq i k = some t → r.1 i k = some t
abbrev mA (G : mG) : Nat → Prop := fun q => G.2.2.1 ≤ q
/-- references go to cells that are made -/
def rOK (r : mR) : Prop := ∀ i k t, r.1 i k = some t → t < r.2
def mRep (G : mG) (g : Bool) (ad : Nat → Nat) (h : mH) (r : mR) (H : Heap) : Prop :=
  va_P G.1 vwCl (mW G ad h r) H ∧ va_D (mA G) (mW G ad h r) ∧ okH h ∧ (g = true → rfOK r) ∧ rOK r ∧ r.2 ≤ sBase ∧ (∀ i, i < 1000 → ad (sBase + i) = G.2.2.2.1 i ∧ ad (sBase + 1000 + i) = G.2.2.2.2.1 i) ∧ ad sScr = G.2.2.2.2.2.1 ∧ ad (sScr + 1) = G.2.2.2.2.2.2.2.2
abbrev mTys (G : mG) : List (ClassId × FieldType) := [(G.2.1 .int, .int), (G.2.1 .byte, .byte), (G.2.1 .boolean, .boolean), (G.2.1 .long, .long)]
def lnS : List Nat := [4, 4, 4, 4, 4, 6, 4, 4, 4, 5, 5]
def txS : List String := ["desk", "spot", "line", "link", "span", "change", "wait", "from", "till", "every", "takes"]
def byS : List (List Int32) := [[100, 101, 115, 107], [115, 112, 111, 116], [108, 105, 110, 101], [108, 105, 110, 107], [115, 112, 97, 110], [99, 104, 97, 110, 103, 101], [119, 97, 105, 116], [102, 114, 111, 109], [116, 105, 108, 108], [101, 118, 101, 114, 121], [116, 97, 107, 101, 115]]
def strW : List (String × Nat × Nat) := [("LinkTimes$Reader", 70, 0), ("LinkTimes$Reader", 112, 4), ("LinkTimes$Reader", 81, 1), ("LinkTimes$Reader", 93, 2), ("LinkTimes$Reader", 101, 3), ("LinkTimes$Reader", 125, 5), ("LinkTimes$Reader", 127, 6), ("LinkTimes$Reader", 146, 7), ("LinkTimes$Reader", 148, 8), ("LinkTimes$Reader", 150, 9), ("LinkTimes$Reader", 158, 10), ("LinkTimesModel", 148, 0), ("LinkTimesModel", 170, 4), ("LinkTimesModel", 150, 1), ("LinkTimesModel", 151, 2), ("LinkTimesModel", 153, 3), ("LinkTimesModel", 184, 5), ("LinkTimesModel", 186, 6), ("LinkTimesModel", 195, 7), ("LinkTimesModel", 200, 8), ("LinkTimesModel", 202, 9), ("LinkTimesModel", 204, 10)]
def nestW : List (String × Nat × MethodName) := [("LinkTimes", 15, m_De_init.1), ("LinkTimes", 34, m_Lo_init.1), ("LinkTimes", 50, m_Se_init.1), ("LinkTimes$Search", 11, m_Wa_init.1), ("LinkTimes", 57, m_Fl_init.1), ("LinkTimes", 67, m_St_init.1), ("LinkTimes", 74, m_Ba_init.1)]

/-- what stands of the machine's tables and of the cells that are no cells of the system -/
def mSf (G : mG) (s : State) : Prop :=
  va_K G.1 vwCl (mTys G) s ∧ G.2.2.1 ≤ s.heap.size ∧ (∀ q ∈ nestW, va_Nw (.methodLinkNest q.1 q.2.1 q.2.2 "LinkTimes") s) ∧ vk_S 11 lnS byS G.2.2.2.1 G.2.2.2.2.1 (mA G) s s.heap ∧
  (∀ q ∈ strW, vk_R q.1 q.2.1 (txS.getD q.2.2 "") (G.2.2.2.1 q.2.2) s) ∧ va_Z "java/lang/String" "COMPACT_STRINGS" "Z" (.int 1) (mA G) s s.heap ∧
  (∃ v : Value, va_Z "jdk/internal/util/Preconditions" "SIOOBE_FORMATTER" "Ljava/util/function/BiFunction;" v (mA G) s s.heap ∧ (v = .null ∨ v = .ref G.2.2.2.2.2.2.2.2)) ∧
  va_X G.2.2.2.2.2.1 G.2.2.2.2.2.2.1 G.2.2.2.2.2.2.2.1 s s.heap ∧ G.2.2.2.2.2.1 < G.2.2.1
theorem mSf.warm {G : mG} {s U : State} {H : Heap} {locs : List Loc} (h : mSf G s) (hW : s.WarmedH U.vm) (hU : U.heap = H) (hS : va_S (mA G) s.heap H locs) : mSf G U := by
  obtain ⟨h1, h2, h3, h4, h5, h6, ⟨v, h7, hv⟩, h8, h9⟩ := h
  have hk : ∀ a : Nat, a < s.heap.size → ¬ mA G a → H[a]? = s.heap[a]? := hS.2.1
  subst hU
  refine ⟨h1.moved hW.alike, Nat.le_trans h2 hS.1, fun q hq => va_Nw.warmM hW (h3 q hq), (h4.moved hW.alike).kept hk, fun q hq => vk_R.warm hW (h5 q hq), (h6.moved hW.alike).kept hk, ⟨v, (h7.moved hW.alike).kept hk, hv⟩, (h8.moved hW.alike).kept (hk _ (Nat.lt_of_lt_of_le h9 h2) (Nat.not_le.mpr h9)), h9⟩
theorem mSf.same {G : mG} {u U : State} (h : mSf G u) (hv : U.vm = u.vm) (hH : U.heap = u.heap) : mSf G U := by
  obtain ⟨h1, h2, h3, h4, h5, h6, ⟨v, h7, hz⟩, h8, h9⟩ := h
  have ha : u.vm.Alike U.vm := by rw [hv]; exact Vm.Alike.refl u.vm
  refine ⟨h1.moved ha, by rw [hH]; exact h2, fun q hq => va_Nw.same rfl hv.symm (h3 q hq), by rw [hH]; exact h4.moved ha, fun q hq => vk_R.same hv (h5 q hq), by rw [hH]; exact h6.moved ha, ⟨v, by rw [hH]; exact h7.moved ha, hz⟩, by rw [hH]; exact h8.moved ha, h9⟩
/-- the locals -/
def mLs (ad : Nat → Nat) (b : Nat) (ls : mL) (lsA : Array Slot) (n : Nat) : Prop := lsA.size = n ∧ ls.length = n ∧ lv_wf lsA ∧ ∀ (j : Nat) (v : mV), ls[j]? = some (some v) → lsA[j]? = some (.val (toV ad v)) ∧ okV b v
def lvl (ad : Nat → Nat) (ls : mL) : List (Nat × Value) := (List.range ls.length).filterMap fun j => match ls[j]? with
  | some (some v) => some (j, toV ad v)
  | _ => none
theorem lvl_mem {ad : Nat → Nat} {ls : mL} {q : Nat × Value} (h : q ∈ lvl ad ls) : ∃ v, ls[q.1]? = some (some v) ∧ q.2 = toV ad v := by
  obtain ⟨j, -, hj⟩ := List.mem_filterMap.mp h
  split at hj
  · rename_i v hv
    cases hj
    exact ⟨v, hv, rfl⟩
  · cases hj
theorem lvl_of {ad : Nat → Nat} {ls : mL} {j : Nat} {v : mV} (h : ls[j]? = some (some v)) : (j, toV ad v) ∈ lvl ad ls := by
  refine List.mem_filterMap.mpr ⟨j, List.mem_range.mpr ((List.getElem?_eq_some_iff.mp h).1), ?_⟩
  simp only [h]
theorem mLs.has {ad : Nat → Nat} {b : Nat} {ls : mL} {lsA : Array Slot} {n : Nat} (h : mLs ad b ls lsA n) : lv_has lsA n (lvl ad ls) := by
  refine ⟨h.1, h.2.2.1, fun q hq => ?_⟩
  obtain ⟨v, hv, he⟩ := lvl_mem hq
  rw [he]
  exact (h.2.2.2 _ _ hv).1
/-- no long stands just ahead -/
def pvOK (ls : mL) (i : Nat) : Bool := match i with
  | 0 => true
  | j + 1 => match ls[j]? with
    | some (some (.inr (.inl _))) => false
    | _ => true
theorem cat_toV (ad : Nat → Nat) (v : mV) : (toV ad v).category = (match v with | .inr (.inl _) => 2 | _ => 1) := by
  rcases v with x | x | _ | x <;> rfl
theorem pvOK_spec {ls : mL} {i j : Nat} {v : mV} {ad : Nat → Nat} (h : pvOK ls i = true) (hj : j + 1 = i) (hv : ls[j]? = some (some v)) : ¬ (toV ad v).category = 2 := by
  subst hj
  simp only [pvOK, hv] at h
  rw [cat_toV]
  rcases v with x | x | x
  · simp
  · simp at h
  · simp
theorem mLs.st1 {ad : Nat → Nat} {b : Nat} {ls : mL} {lsA ls' : Array Slot} {n i : Nat} {v : mV} (h : mLs ad b ls lsA n) (hv : okV b v) (hp : pvOK ls i = true)
    (h' : lv_has ls' n ((i, toV ad v) :: (lvl ad ls).filter (fun q => !(q.1 == i) && !(q.1 + 1 == i && q.2.category == 2)))) : mLs ad b (ls.set i (some v)) ls' n := by
  refine ⟨h'.1, by rw [List.length_set]; exact h.2.1, h'.2.1, fun j w hj => ?_⟩
  by_cases hij : j = i
  · subst hij
    rw [List.getElem?_set_self' ] at hj
    have hw : w = v := by
      cases hx : ls[j]? with
      | none => rw [hx] at hj; cases hj
      | some x => rw [hx] at hj; exact ((Option.some.inj (Option.some.inj hj))).symm
    subst hw
    exact ⟨h'.2.2 _ List.mem_cons_self, hv⟩
  · rw [List.getElem?_set_ne (Ne.symm hij)] at hj
    refine ⟨h'.2.2 (j, toV ad w) (List.mem_cons_of_mem _ (List.mem_filter.mpr ⟨lvl_of hj, ?_⟩)), (h.2.2.2 _ _ hj).2⟩
    by_cases hc : j + 1 = i
    · have := pvOK_spec (ad := ad) hp hc hj
      simp [hij, this]
    · simp [hij, hc]
theorem mLs.st2 {ad : Nat → Nat} {b : Nat} {ls : mL} {lsA ls' : Array Slot} {n i : Nat} {v : mV} (h : mLs ad b ls lsA n) (hv : okV b v) (hp : pvOK ls i = true)
    (h' : lv_has ls' n ((i, toV ad v) :: (lvl ad ls).filter (fun q => !(q.1 == i) && (!(q.1 == i + 1) && !(q.1 + 1 == i && q.2.category == 2))))) : mLs ad b ((ls.set i (some v)).set (i + 1) none) ls' n := by
  refine ⟨h'.1, by rw [List.length_set, List.length_set]; exact h.2.1, h'.2.1, fun j w hj => ?_⟩
  by_cases hi1 : j = i + 1
  · subst hi1
    rw [List.getElem?_set_self'] at hj
    cases hx : (ls.set i (some v))[i + 1]? with
    | none => rw [hx] at hj; cases hj
    | some x => rw [hx] at hj; cases hj
  rw [List.getElem?_set_ne (Ne.symm hi1)] at hj
  by_cases hij : j = i
  · subst hij
    rw [List.getElem?_set_self'] at hj
    have hw : w = v := by
      cases hx : ls[j]? with
      | none => rw [hx] at hj; cases hj
      | some x => rw [hx] at hj; exact ((Option.some.inj (Option.some.inj hj))).symm
    subst hw
    exact ⟨h'.2.2 _ List.mem_cons_self, hv⟩
  · rw [List.getElem?_set_ne (Ne.symm hij)] at hj
    refine ⟨h'.2.2 (j, toV ad w) (List.mem_cons_of_mem _ (List.mem_filter.mpr ⟨lvl_of hj, ?_⟩)), (h.2.2.2 _ _ hj).2⟩
    by_cases hc : j + 1 = i
    · have := pvOK_spec (ad := ad) hp hc hj
      simp [hij, hi1, this]
    · simp [hij, hi1, hc]
/-- the method's instructions -/
def dc (m : mM) (pc : Nat) : Option (Instr × Nat) := m.2.2.2.2.lookup pc
theorem lookup_mem {α : Type} {l : List (Nat × α)} {k : Nat} {v : α} (h : l.lookup k = some v) : (k, v) ∈ l := by
  induction l with
  | nil => cases h
  | cons a l ih =>
    obtain ⟨j, w⟩ := a
    rw [List.lookup_cons] at h
    split at h
    · rename_i e
      have : k = j := by simpa using e
      subst this
      cases h
      exact List.mem_cons_self
    · exact List.mem_cons_of_mem _ (ih h)
/-- the machine is in a method of ours -/
def mCx (G : mG) (m : mM) (p : Program) (s : State) (mid : MethodId) (args : Array Value) (meth : Method) (c : Code) : Prop :=
  p.tables.exec = Jvm.exec ∧ c.code = m.2.1 ∧ meth.sig.returnType = m.2.2.2.1 ∧ c.maxLocals = m.2.2.1 ∧ s.vm.findClass m.1.cls = some mid.cls ∧ meth.locks = false ∧ meth.name = m.1.name ∧ (∀ w ∈ t0_ws, w.before args s = true) ∧ mSf G s ∧ (∀ q ∈ m.2.2.2.2, decode m.2.1 q.1 = .ok q.2)
def mAg (ad ad0 : Nat → Nat) (n : Nat) : Prop := ∀ i, i < n ∨ sBase ≤ i → ad i = ad0 i
def mAt (G : mG) (E : mE) (m : mM) (p : Program) (l : Launch) (e : Env) (s : State) (mid : MethodId) (args : Array Value) (below : List Frame) (meth : Method) (c : Code) (Q : State → Prop) (ad0 : Nat → Nat) (n0 : Nat) (pc : Nat) (ls : mL) (st : List mV) (h : mH) (r : mR) (u : mU) : Prop :=
  ∀ (ad : Nat → Nat) (H : Heap) (locs : List Loc) (lsA : Array Slot), mAg ad ad0 n0 → n0 ≤ r.2 → mRep G E.1 ad h r H → va_S (mA G) s.heap H locs → mLs ad r.2 ls lsA m.2.2.1 → (∀ v ∈ st, okV r.2 v) →
    W p l e E.2 s mid args below meth c H locs u.1 u.2 Q (F0 mid pc lsA (st.map (toV ad)))
/-- from here the machine comes to a state of X (or on to where such a state would lead) -/
def WP (E : mE) (m : mM) (X : mX) (pc : Nat) (ls : mL) (st : List mV) (h : mH) (r : mR) (u : mU) : Prop :=
  ∀ (G : mG) (p : Program) (l : Launch) (e : Env) (s : State) (mid : MethodId) (args : Array Value) (below : List Frame) (meth : Method) (c : Code) (Q : State → Prop) (ad0 : Nat → Nat) (n0 : Nat), mCx G m p s mid args meth c →
    (∀ pc' ls' st' h' r' u', X pc' ls' st' h' r' u' → mAt G E m p l e s mid args below meth c Q ad0 n0 pc' ls' st' h' r' u') → mAt G E m p l e s mid args below meth c Q ad0 n0 pc ls st h r u
theorem WP.exit {E : mE} {m : mM} {X : mX} {pc : Nat} {ls : mL} {st : List mV} {h : mH} {r : mR} {u : mU} (hx : X pc ls st h r u) : WP E m X pc ls st h r u := fun _ _ _ _ _ _ _ _ _ _ _ _ _ _ hX => hX _ _ _ _ _ _ hx
theorem WP.trans {E : mE} {m : mM} {X Y : mX} {pc : Nat} {ls : mL} {st : List mV} {h : mH} {r : mR} {u : mU} (h1 : WP E m X pc ls st h r u) (h2 : ∀ pc ls st h r u, X pc ls st h r u → WP E m Y pc ls st h r u) : WP E m Y pc ls st h r u :=
  fun G p l e s mid args below meth c Q ad0 n0 hC hX => h1 G p l e s mid args below meth c Q ad0 n0 hC (fun pc' ls' st' h' r' u' hx => h2 pc' ls' st' h' r' u' hx G p l e s mid args below meth c Q ad0 n0 hC hX)
theorem mdc {G : mG} {m : mM} {p : Program} {s : State} {mid : MethodId} {args : Array Value} {meth : Method} {c : Code} (hC : mCx G m p s mid args meth c) {pc : Nat} {i : Instr × Nat} (h : dc m pc = some i) : decode m.2.1 pc = .ok i := hC.2.2.2.2.2.2.2.2.2 (pc, i) (lookup_mem h)

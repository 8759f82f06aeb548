/-! making cells: 'new', 'newarray', constructors -/
def hnew (h : mH) (i : Nat) : mH := fun a b => if a = i then 0 else h a b
def rnew (r : mR) : mR := (fun a b => if a = r.2 then none else r.1 a b, r.2 + 1)
def adn (ad : Nat → Nat) (i a : Nat) : Nat → Nat := fun j => if j = i then a else ad j
theorem adn_ag {ad : Nat → Nat} {i a : Nat} (hi : i < sBase) : mAg (adn ad i a) ad i := by
  intro j hj
  unfold adn
  rw [if_neg (by omega)]
theorem mCe_new {G : mG} {ad : Nat → Nat} {h : mH} {r : mR} {i a : Nat} (hi : i < r.2) (hr : rOK r) (hb : r.2 ≤ sBase) : mCe G (adn ad r.2 a) (hnew h r.2) (rnew r) i = mCe G ad h r i := by
  have hne : ¬ i = r.2 := by omega
  have e : hnew h r.2 i = h i := by funext b; simp [hnew, hne]
  unfold mCe mAv
  split
  · simp only [e]
  · have : mFv (adn ad r.2 a) (hnew h r.2) (rnew r) i = mFv ad h r i := by
      funext ci k
      unfold mFv
      rw [e]
      have e2 : (rnew r).1 i k = r.1 i k := by simp [rnew, hne]
      rw [e2]
      split
      · cases hx : r.1 i k with
        | none => rfl
        | some t =>
          have ht := hr _ _ _ hx
          show Value.ref (adn ad r.2 a t) = Value.ref (ad t)
          unfold adn
          rw [if_neg (by omega)]
      · rfl
    rw [this]
theorem mW_new {G : mG} {ad : Nat → Nat} {h : mH} {r : mR} {a : Nat} (hr : rOK r) (hb : r.2 ≤ sBase) : mW G (adn ad r.2 a) (hnew h r.2) (rnew r) = mW G ad h r ++ [(a, mCe G (adn ad r.2 a) (hnew h r.2) (rnew r) r.2)] := by
  apply List.ext_getElem?
  intro i
  have hl : (mW G ad h r).length = r.2 := by unfold mW; simp
  by_cases h1 : i < r.2
  · rw [List.getElem?_append_left (by omega), mW_get h1, mW_get (show i < (rnew r).2 from by show i < r.2 + 1; omega), mCe_new h1 hr hb]
    unfold adn
    rw [if_neg (by omega)]
  · by_cases h2 : i = r.2
    · subst h2
      rw [List.getElem?_append_right (by omega), hl, mW_get (show r.2 < (rnew r).2 from by show r.2 < r.2 + 1; omega)]
      simp [adn]
    · rw [List.getElem?_eq_none (by unfold mW; simp [rnew]; omega), List.getElem?_eq_none (by simp [hl]; omega)]
theorem okH.new {h : mH} {i : Nat} (hh : okH h) : okH (hnew h i) := by
  intro a b
  unfold hnew
  by_cases hz : a = i
  · rw [if_pos hz]
    split
    · unfold okJ; omega
    · unfold okI; omega
  · rw [if_neg hz]
    exact hh a b
theorem rOK.new {r : mR} (hr : rOK r) : rOK (rnew r) := by
  intro i k t ht
  unfold rnew at ht ⊢
  dsimp only at ht ⊢
  split at ht
  · cases ht
  · have := hr i k t ht
    omega
theorem rfT_lt : ∀ q ∈ rfT, q.1 < nIds := by decide
theorem rfq_lt {i k t : Nat} (h : rfq i k = some t) : i < nIds := by
  unfold rfq at h
  split at h
  · rename_i l hl
    exact rfT_lt _ (lookup_mem hl)
  · cases h
theorem rfOK.new {r : mR} (hr : rfOK r) : rfOK (rnew r) := by
  refine ⟨by have := hr.1; show nIds ≤ r.2 + 1; omega, fun i k t hq => ?_⟩
  have h2 := rfq_lt hq
  have h3 := hr.1
  show (if i = r.2 then none else r.1 i k) = _
  rw [if_neg (by omega)]
  exact hr.2 i k t hq
theorem mRep.new {G : mG} {g : Bool} {ad : Nat → Nat} {h : mH} {r : mR} {H H1 : Heap} {a : Nat} (hR : mRep G g ad h r H) (hb : r.2 + 1 ≤ sBase) (h1 : va_P G.1 vwCl (mW G ad h r ++ [(a, mCe G (adn ad r.2 a) (hnew h r.2) (rnew r) r.2)]) H1) (h2 : va_D (mA G) (mW G ad h r ++ [(a, mCe G (adn ad r.2 a) (hnew h r.2) (rnew r) r.2)])) : mRep G g (adn ad r.2 a) (hnew h r.2) (rnew r) H1 := by
  obtain ⟨-, -, h3, h4, h5, h6, h7, h8⟩ := hR
  rw [← mW_new h5 h6] at h1 h2
  refine ⟨h1, h2, h3.new, fun e => (h4 e).new, h5.new, hb, fun i hi => ?_, ?_⟩
  · have := h7 i hi
    unfold adn
    rw [if_neg (by omega), if_neg (by omega)]
    exact this
  · have z1 : sScr = 200000 := rfl
    have z2 : sBase = 100000 := rfl
    unfold adn
    rw [if_neg (by omega), if_neg (by omega)]
    exact h8
section MK
variable {E : mE} {m : mM} {X : mX} {pc q : Nat} {ls : mL} {st : List mV} {h : mH} {r : mR} {u : mU}
theorem newa_go {ty : FieldType} {n : Nat} {at_ : ArrayType} (hw : Cond.arrayClass ty ∈ t0_ws) (hty : newarray.typeOf at_ = ty) (hk : kd r.2 = .inl (ty, n)) (ho : okb n = true) (hby : n * componentBytes ty ≤ 536870912) (hd : dc m pc = some (.newarray at_, 2)) (hq : pc + 2 = q) (hb : r.2 + 1 ≤ sBase) (hc : u.1 + 1 ≤ E.2.cells) (hs : u.2 + n ≤ E.2.slots) (hcl : ∀ (s : State) (G : mG) (cA : ClassId), mSf G s → s.vm.findClass ("[" ++ ty.toString) = some cA → cA = G.2.1 ty) (ha : ∀ (h : mH) (cA : ClassId), (∀ b, h r.2 b = 0) → vp_cell cA (mAv h r.2 ty n) = arrV cA n (fun _ => defaultValue ty))
    (k : WP E m X q ls (vR r.2 :: st) (hnew h r.2) (rnew r) (u.1 + 1, u.2 + n)) : WP E m X pc ls (vI n :: st) h r u := by
  intro G p l e s mid args below meth c Q ad0 n0 hC hX ad H locs lsA hag hn hR hS hL hst
  subst hq
  subst hty
  have hts : ∀ w ∈ t0_ws, w.before args s = true := hC.2.2.2.2.2.2.2.1
  have hsf := hC.2.2.2.2.2.2.2.2.1
  have hx : okI n := okb_spec ho
  have h0 : (0 : Int) ≤ n := Int.natCast_nonneg n
  have hz : ∀ b, hnew h r.2 r.2 b = 0 := fun b => by simp [hnew]
  refine va_newaK hC.1 hC.2.1 (hts _ hw) rfl (mdc hC hd) rfl (n := Int32.ofInt n) (N := n) (fun z => by rw [oi_zero, oi_lt hx oi_0] at z; omega) (by rw [oi_clamp hx h0]; rfl) hby hc hs rfl (fun H1 cA a1 a2 a3 a4 a5 => ?_)
  have hcA := hcl s G cA hsf a5
  subst hcA
  have hA : mA G H.size := Nat.le_trans hsf.2.1 hS.1
  have hat : va_at G.1 vwCl (H.size, mCe G (adn ad r.2 H.size) (hnew h r.2) (rnew r) r.2) H1 := by
    rw [mCe_arr hk]
    show H1[H.size]? = some (vp_cell _ _)
    rw [ha _ _ hz]
    exact a1
  have hP1 : va_P G.1 vwCl (mW G ad h r ++ [(H.size, mCe G (adn ad r.2 H.size) (hnew h r.2) (rnew r) r.2)]) H1 := by
    refine va_P.app (hR.1.kept fun j qq hj => a3 _ (hR.1 j qq hj).lt) (fun j qq hj => ?_)
    match j, hj with
    | 0, hj => cases hj; exact hat
    | j + 1, hj => simp at hj
  have hD1 : va_D (mA G) (mW G ad h r ++ [(H.size, mCe G (adn ad r.2 H.size) (hnew h r.2) (rnew r) r.2)]) := hR.2.1.push hR.1 rfl hA
  have hR1 := hR.new hb hP1 hD1
  have hS1 : va_S (mA G) s.heap H1 locs := ⟨by rw [a2]; exact Nat.le_succ_of_le hS.1, fun q h1 h2 => by rw [a3 q (Nat.lt_of_lt_of_le h1 hS.1)]; exact hS.2.1 q h1 h2, hS.2.2⟩
  have hag1 := adn_ag (ad := ad) (a := H.size) (show r.2 < sBase from hb)
  have hst1 := ok_tl hst
  have kk := k G p l e s mid args below meth c Q ad0 n0 hC hX (adn ad r.2 H.size) H1 locs lsA (fun i hi => (hag1 i (hi.elim (fun z => Or.inl (Nat.lt_of_lt_of_le z hn)) Or.inr)).trans (hag i hi)) (Nat.le_succ_of_le hn) hR1 hS1 (hL.ag hag1 (Nat.le_succ _)) (ok_cons (v := vR r.2) (Or.inl (Nat.lt_succ_self _)) (fun w hw => (hst1 w hw).mono (Nat.le_succ _)))
  have e1 : (vR r.2 :: st).map (toV (adn ad r.2 H.size)) = .ref H.size :: st.map (toV ad) := by
    rw [List.map_cons, map_ag hag1 hst1]
    simp [toV, adn]
  rw [e1] at kk
  exact kk
end MK

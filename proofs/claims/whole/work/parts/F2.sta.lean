/-! the start: the machine's tables and the cells that are no cells of the system -/
abbrev gvC : Cond := Jvm.Cond.and given_1 narrow_1
def tmI : List Nat := [70, 81, 93, 101, 112, 125, 127, 146, 148, 150, 158]
def tmS (i : Nat) : Term := .string "LinkTimes$Reader" (tmI.getD i 0)
def tmJ : List Nat := [148, 150, 151, 153, 170, 184, 186, 195, 200, 202, 204]
def tmT (i : Nat) : Term := .string "LinkTimesModel" (tmJ.getD i 0)
theorem gv_ex : ∀ i : Nat, i < 11 → Cond.exactly (tmS i) "java/lang/String" ∈ flatC gvC := by decide +kernel
theorem gv_co : ∀ i : Nat, i < 11 → Cond.eq (.field (tmS i) "java/lang/String" "coder" "B") (.int 0) ∈ flatC gvC := by decide +kernel
theorem gv_ar : ∀ i : Nat, i < 11 → Cond.arrayOf (.field (tmS i) "java/lang/String" "value" "[B") .byte ∈ flatC gvC := by decide +kernel
theorem gv_le : ∀ i : Nat, i < 11 → Cond.eq (.length (.field (tmS i) "java/lang/String" "value" "[B")) (.int (Int32.ofNat (lnS.getD i 0))) ∈ flatC gvC := by decide +kernel
theorem gv_el : ∀ i : Nat, i < 11 → ∀ j : Nat, j < lnS.getD i 0 → Cond.eq (.elem (.field (tmS i) "java/lang/String" "value" "[B") (.int (Int32.ofNat j))) (.int ((byS.getD i []).getD j 0)) ∈ flatC gvC := by decide +kernel
def neL : List (Nat × Nat × Nat) := [(0, 1, 47), (0, 2, 57), (0, 3, 68), (0, 4, 38), (0, 5, 82), (0, 6, 95), (0, 7, 109), (0, 8, 124), (0, 9, 141), (0, 10, 159), (1, 2, 59), (1, 3, 70), (1, 5, 84), (1, 6, 97), (1, 7, 111), (1, 8, 126), (1, 9, 143), (1, 10, 161), (2, 3, 71), (2, 5, 85), (2, 6, 98), (2, 7, 112), (2, 8, 127), (2, 9, 144), (2, 10, 162), (3, 5, 86), (3, 6, 99), (3, 7, 113), (3, 8, 128), (3, 9, 145), (3, 10, 163), (4, 1, 48), (4, 2, 58), (4, 3, 69), (4, 5, 83), (4, 6, 96), (4, 7, 110), (4, 8, 125), (4, 9, 142), (4, 10, 160), (5, 6, 100), (5, 7, 114), (5, 8, 129), (5, 9, 146), (5, 10, 164), (6, 7, 115), (6, 8, 130), (6, 9, 147), (6, 10, 165), (7, 8, 131), (7, 9, 148), (7, 10, 166), (8, 9, 149), (8, 10, 167), (9, 10, 168)]
theorem ne_at : ∀ q ∈ neL, (flatC gvC)[q.2.2]? = some (Cond.not (Cond.eq (tmS q.1) (tmS q.2.1))) := by decide +kernel
theorem ne_all : ∀ i : Nat, i < 11 → ∀ j : Nat, j < 11 → i ≠ j → ∃ q ∈ neL, q.1 = i ∧ q.2.1 = j ∨ q.1 = j ∧ q.2.1 = i := by decide +kernel
theorem gv_ne (i : Nat) (hi : i < 11) (j : Nat) (hj : j < 11) (hne : i ≠ j) : Cond.not (Cond.eq (tmS i) (tmS j)) ∈ flatC gvC ∨ Cond.not (Cond.eq (tmS j) (tmS i)) ∈ flatC gvC := by
  obtain ⟨q, hq, ⟨rfl, rfl⟩ | ⟨rfl, rfl⟩⟩ := ne_all i hi j hj hne
  · exact Or.inl (List.mem_of_getElem? (ne_at q hq))
  · exact Or.inr (List.mem_of_getElem? (ne_at q hq))
theorem gv_eq : ∀ i : Nat, i < 11 → Cond.eq (tmS i) (tmT i) ∈ flatC gvC := by decide +kernel
theorem gv_cs : Cond.eq (.static "java/lang/String" "COMPACT_STRINGS" "Z") (.int 1) ∈ flatC gvC := by decide +kernel
theorem gv_sf : Cond.isRef (.static "jdk/internal/util/Preconditions" "SIOOBE_FORMATTER" "Ljava/util/function/BiFunction;") ∈ flatC gvC := by decide +kernel
theorem gv_us : Cond.isRef (.static Bundle.tN "UNASSIGNED_STACK" Bundle.steD) ∈ flatC gvC := by decide +kernel
theorem gv_ss : Cond.isRef (.static Bundle.tN "SUPPRESSED_SENTINEL" Bundle.listD) ∈ flatC gvC := by decide +kernel
theorem tb_cs : Cond.laysStatic "java/lang/String" "COMPACT_STRINGS" "Z" ∈ lw_tbl ∧ Cond.initialized "java/lang/String" ∈ lw_tbl := by decide +kernel
theorem tb_sf : Cond.laysStatic "jdk/internal/util/Preconditions" "SIOOBE_FORMATTER" "Ljava/util/function/BiFunction;" ∈ lw_tbl ∧ Cond.initialized "jdk/internal/util/Preconditions" ∈ lw_tbl := by decide +kernel
theorem tb_us : Cond.laysStatic Bundle.tN "UNASSIGNED_STACK" Bundle.steD ∈ lw_tbl ∧ Cond.laysStatic Bundle.tN "SUPPRESSED_SENTINEL" Bundle.listD ∈ lw_tbl ∧ Cond.initialized Bundle.tN ∈ lw_tbl := by decide +kernel
theorem tb_nw : ∀ q ∈ nestW, Cond.methodLinkNest q.1 q.2.1 q.2.2 "LinkTimes" ∈ lw_tbl := by decide +kernel
theorem tb_sr : ∀ q ∈ strW, Cond.stringRef q.1 q.2.1 (txS.getD q.2.2 "") ∈ lw_tbl := by decide +kernel
theorem sw_tm : ∀ q ∈ strW, q.2.2 < 11 ∧ (q.1 = "LinkTimes$Reader" ∧ q.2.1 = tmI.getD q.2.2 0 ∨ q.1 = "LinkTimesModel" ∧ q.2.1 = tmJ.getD q.2.2 0) := by decide +kernel
theorem arr_c {args : Array Value} {s : State} {ty : FieldType} (h : (Cond.arrayClass ty).before args s = true) : ∃ cA : ClassId, ArrOfT s cA ty ∧ s.vm.findClass ("[" ++ ty.toString) = some cA := by
  obtain ⟨c, k, comp, h1, h2, h3⟩ := Cond.arrayClass_spec h
  exact ⟨c, fun N z => ⟨(fun k h => by cases h), k, h2, comp, h3⟩, h1⟩
theorem cls_c {args : Array Value} {s : State} (hts : ∀ w ∈ t0_ws, w.before args s = true) : ∃ D : va_G, ∀ (k : Nat) (q : vw_C), vwCl[k]? = some q → u_Kn s q.1 q.2.1 q.2.2 (D.1 k) (D.2 k) := by
  have one : ∀ k : Nat, ∃ p : ClassId × (Nat → Nat), ∀ q : vw_C, vwCl[k]? = some q → u_Kn s q.1 q.2.1 q.2.2 p.1 p.2 := by
    intro k
    have hins : ∀ q : vw_C, vwCl[k]? = some q → Cond.instantiable q.1 q.2.2 ∈ t0_ws := by
      intro q hq
      match k, hq with
      | 0, hq => cases hq; exact k_ins_0
      | 1, hq => cases hq; exact k_ins_1
      | 2, hq => cases hq; exact k_ins_2
      | 3, hq => cases hq; exact k_ins_3
      | 4, hq => cases hq; exact k_ins_4
      | 5, hq => cases hq; exact k_ins_5
      | 6, hq => cases hq; exact k_ins_6
      | 7, hq => cases hq; exact k_ins_7
      | 8, hq => cases hq; exact k_ins_8
      | 9, hq => cases hq; exact k_ins_9
      | 10, hq => cases hq; exact k_ins_10
      | k + 11, hq => simp [vwCl] at hq
    cases hq : vwCl[k]? with
    | none => exact ⟨(0, fun _ => 0), fun q h => by cases h⟩
    | some q =>
      obtain ⟨c, iS, hK⟩ := u_known hts (ok_cl k q hq).1 (hts _ (hins q hq))
      exact ⟨(c, iS), fun q' h => by cases h; exact hK⟩
  have two := fun k => (one k).choose_spec
  exact ⟨(fun k => (one k).choose.1, fun k => (one k).choose.2), fun k q hq => two k q hq⟩
set_option maxHeartbeats 1000000 in
theorem mSf_start {s : State} {b L : Nat} {xs : Nat → Int32} (hts : ∀ w ∈ lw_tbl, w.before #[Value.ref b] s = true) (hX : va_X b L xs s s.heap) (hbl : b < s.heap.size) (hgv : gvC.before #[Value.ref b] s = true) :
    ∃ G : mG, mSf G s ∧ G.2.2.1 = s.heap.size ∧ G.2.2.2.2.2.1 = b ∧ G.2.2.2.2.2.2.1 = L ∧ G.2.2.2.2.2.2.2.1 = xs ∧ exF (mA G) s := by
  have hts0 : ∀ w ∈ t0_ws, w.before #[Value.ref b] s = true := fun w hw => hts w (List.mem_filter.mp hw).1
  have hs := flat_of_before _ hgv
  obtain ⟨D, hD⟩ := cls_c hts0
  obtain ⟨cI, aI, fI⟩ := arr_c (hts0 _ k_ac_int)
  obtain ⟨cB, aB, fB⟩ := arr_c (hts0 _ k_ac_byte)
  obtain ⟨cZ, aZ, fZ⟩ := arr_c (hts0 _ k_ac_boolean)
  obtain ⟨cJ, aJ, fJ⟩ := arr_c (hts0 _ k_ac_long)
  have hA : ∀ a : Nat, a < s.heap.size → ¬ (fun q : Nat => s.heap.size ≤ q) a := fun a ha => Nat.not_le.mpr ha
  obtain ⟨adK, adV, hS, hev⟩ := vk_Sof (args := #[Value.ref b]) (s := s) (N := 11) (tm := tmS) (len := lnS) (byt := byS) (A := fun q : Nat => s.heap.size ≤ q) (by decide +kernel) (fun i hi => hs _ (gv_ex i hi)) (fun i hi => hs _ (gv_co i hi)) (fun i hi => hs _ (gv_ar i hi)) (fun i hi => hs _ (gv_le i hi)) (fun i hi j hj => hs _ (gv_el i hi j hj)) (fun i j hi hj hne => (gv_ne i hi j hj hne).elim (fun z => Or.inl (hs _ z)) (fun z => Or.inr (hs _ z))) hA
  have hC := va_Zof (A := fun q : Nat => s.heap.size ≤ q) (hts _ tb_cs.1) (hts _ tb_cs.2) (va_eqi (hs _ gv_cs)) hA
  have hF := va_Zqof (A := fun q : Nat => s.heap.size ≤ q) (hts _ tb_sf.1) (hts _ tb_sf.2) (hs _ gv_sf) hA
  have hU := vx_Zqof (A := fun q : Nat => s.heap.size ≤ q) (hts _ tb_us.1) (hts _ tb_us.2.2) (hs _ gv_us) hA
  have hN := vx_Zqof (A := fun q : Nat => s.heap.size ≤ q) (hts _ tb_us.2.1) (hts _ tb_us.2.2) (hs _ gv_ss) hA
  obtain ⟨sf, v, hv, hsf⟩ : ∃ (sf : Nat) (v : Value), va_Z "jdk/internal/util/Preconditions" "SIOOBE_FORMATTER" "Ljava/util/function/BiFunction;" v (fun q : Nat => s.heap.size ≤ q) s s.heap ∧ (v = .null ∨ v = .ref sf) := by
    rcases hF with h | ⟨t, h⟩
    · exact ⟨0, _, h, Or.inl rfl⟩
    · exact ⟨t, _, h, Or.inr rfl⟩
  refine ⟨(D, (fun ty => match ty with | .byte => cB | .boolean => cZ | .long => cJ | _ => cI), s.heap.size, adK, adV, (b, L, xs, sf)), ⟨⟨hD, ?_⟩, Nat.le_refl _, fun q hq => va_Nw.of rfl (hts _ (tb_nw q hq)), hS, fun q hq => ?_, hC, ⟨v, hv, hsf⟩, hX, hbl⟩, rfl, rfl, rfl, rfl, ⟨hU, hN, fun w hw => va_Nw.of (exB_ot w hw) (hts _ (exB_tb w hw))⟩⟩
  · intro k q hk
    match k, hk with
    | 0, hk => cases hk; exact ⟨aI, fI⟩
    | 1, hk => cases hk; exact ⟨aB, fB⟩
    | 2, hk => cases hk; exact ⟨aZ, fZ⟩
    | 3, hk => cases hk; exact ⟨aJ, fJ⟩
    | k + 4, hk => simp at hk
  · obtain ⟨q11, hq2⟩ := sw_tm q hq
    have hsr := hts _ (tb_sr q hq)
    refine vk_R.of hsr ?_
    have h0 := hev q.2.2 q11
    rcases hq2 with ⟨e1, e2⟩ | ⟨e1, e2⟩
    · rw [e1, e2]; exact h0
    · obtain ⟨cM, kM, hcM, -⟩ := Cond.instantiable_spec (hts0 _ k_ins_10)
      rw [e1, e2] at hsr ⊢
      obtain ⟨-, -, -, a, -, -, -, -, -, hev2⟩ := Cond.stringRef_spec hcM hsr
      have h3 := Cond.eq_refs (hs _ (gv_eq q.2.2 q11)) hev2 rfl
      have h4 : Value.ref (adK q.2.2) = Value.ref a := Option.some.inj (h0.symm.trans h3)
      cases h4
      exact hev2

/-! the law: a case of its switch (gE8.py) -/
abbrev lsL (i : Int) : mL := [some (vR sScr), some (vR 0), some (vR 64), some (vR 86), some (vI i), none, none]
def dcb (m : mM) (pc : Nat) (i : Instr × Nat) : Bool := decide (dc m pc = some i)
theorem dcb_e {m : mM} {pc : Nat} {i : Instr × Nat} (h : dcb m pc i = true) : dc m pc = some i := of_decide_eq_true h
def argsAt (m : mM) : Nat → List Int → Bool
  | _, [] => true
  | pc, k :: ks => dcb m pc (.aload_n 0, 1) && (dcb m (pc + 1) (.iload 4, 2) && (dcb m (pc + 3) (.iconst k, 1) && (dcb m (pc + 4) (.iadd, 1) && (dcb m (pc + 5) (.iaload, 1) && argsAt m (pc + 6) ks))))
def caseAt (m : mM) (pc : Nat) (ks : List Int) (i1 i2 : Nat) : Bool := dcb m pc (.aload_n 1, 1) && (argsAt m (pc + 1) ks && (dcb m (pc + 1 + 6 * ks.length) (.invokevirtual i1, 3) && (dcb m (pc + 1 + 6 * ks.length + 3) (.aload_n 2, 1) && (argsAt m (pc + 1 + 6 * ks.length + 4) ks && (dcb m (pc + 1 + 6 * ks.length + 4 + 6 * ks.length) (.invokevirtual i2, 3) && dcb m (pc + 1 + 6 * ks.length + 4 + 6 * ks.length + 3) (.if_icmp .eq (2172 - ((pc + 1 + 6 * ks.length + 4 + 6 * ks.length + 3 : Nat) : Int)), 3))))))
section CS
variable {sc : mSc} {E : mE} {m : mM} {X : mX} {st : List mV} {h : mH} {r : mR} {u : mU}
theorem ws_args {i : Int} {ls : mL} (l0 : ls[0]? = some (some (vR sScr))) (l4 : ls[4]? = some (some (vI i))) (i0 : 0 ≤ i) (i1 : i + 6 ≤ sc.1) (hs : sc.1 ≤ 3072) : ∀ (ks : List Int) (pc : Nat) (st : List mV), argsAt m pc ks = true → (∀ k ∈ ks, 1 ≤ k ∧ k ≤ 5) → WPs sc E m X (pc + 6 * ks.length) ls ((ks.map (fun k => vI (scv sc (i + k)))).reverse ++ st) h r u → WPs sc E m X pc ls st h r u
  | [], pc, st, _, _, k => k
  | k :: ks, pc, st, ha, hk, kk => by
    simp only [argsAt, Bool.and_eq_true] at ha
    obtain ⟨a0, a1, a3, a4, a5, a6⟩ := ha
    obtain ⟨k0, k5⟩ := hk k List.mem_cons_self
    have ok : okb k = true := by
      have : k = 1 ∨ k = 2 ∨ k = 3 ∨ k = 4 ∨ k = 5 := by omega
      rcases this with rfl | rfl | rfl | rfl | rfl <;> rfl
    refine WPs.row (wq_aload_n (x := sScr) (dcb_e a0) rfl l0) ?_
    refine WPs.row (wq_iload (dcb_e a1) rfl l4) ?_
    refine WPs.row (wq_iconst (dcb_e a3) rfl ok) ?_
    refine WPs.row (wq_iadd (dcb_e a4) rfl (by omega) (by omega)) ?_
    refine ws_ld (dcb_e a5) rfl (by omega) (by omega) ?_
    refine ws_args l0 l4 i0 i1 hs ks (pc + 6) _ a6 (fun z hz => hk z (List.mem_cons_of_mem _ hz)) ?_
    have e : pc + 6 + 6 * ks.length = pc + 6 * (k :: ks).length := by simp; omega
    rw [e]
    simpa using kk
def clOK (i ci idx : Nat) (m' : mM) (R' : Room) (n : Nat) : Prop := Cond.methodLink "LinkTimesLaw" idx m'.1 ∈ t0_ws ∧ mVt m' ∧ (parseMethodDescriptor m'.1.desc).map (fun d => d.parameters.length) = some n ∧ kd i = .inr ci ∧ (vwCl[ci]?).map (fun q => q.1) = some m'.1.cls ∧ i < nIds ∧ R'.frames + 1 ≤ 14 ∧ 8 + (m'.2.2.1 + 11) + R'.locals ≤ 520 ∧ R'.cells = 0 ∧ R'.slots = 0
theorem ws_call {pc idx i ci : Nat} {m' : mM} {R' : Room} {As rest : List mV} {post : mP} {ls : mL} (o : clOK i ci idx m' R' As.length) (hd : dc m_La_law pc = some (.invokevirtual idx, 3)) (hu : u.1 ≤ 1112 ∧ u.2 ≤ 43168) (hr : rest.length ≤ 4) (hM : Meets true R' m' (vR i :: As) h r post) (k : ∀ rv h' r', post rv h' r' → WPs sc (true, room_1) m_La_law X (pc + 3) ls (rv.toList ++ rest) h' r' u) : WPs sc (true, room_1) m_La_law X pc ls (As.reverse ++ vR i :: rest) h r u := by
  obtain ⟨o1, o2, o3, o4, o5, o6, o7, o8, o9, o10⟩ := o
  refine WPs.step (Y := fun a b c d e f => a = pc + 3 ∧ b = ls ∧ (∃ rv, post rv d e ∧ c = rv.toList ++ rest) ∧ f = u) (wq_callV (m' := m') (R' := R') (As := As) hd rfl o1 o2 o3 o4 o5 (Or.inl ⟨rfl, o6⟩) o7 o8 (by rw [o9]; exact hu.1) (by rw [o10]; exact hu.2) hr hM rfl (fun rv h' r' hp _ => WP.exit ⟨rfl, rfl, ⟨rv, hp, rfl⟩, by rw [o9, o10]; rfl⟩)) ?_
  rintro _ _ _ h' r' _ ⟨rfl, rfl, ⟨rv, hp, rfl⟩, rfl⟩
  exact k rv h' r' hp
theorem ws_case {pc0 i1 i2 : Nat} {ks : List Int} {m1 m2 : mM} {R1 R2 : Room} {i : Int} (hc : caseAt m_La_law pc0 ks i1 i2 = true) (hk : ∀ k ∈ ks, 1 ≤ k ∧ k ≤ 5) (o1 : clOK 0 9 i1 m1 R1 ks.length) (o2 : clOK 64 10 i2 m2 R2 ks.length) (i0 : 0 ≤ i) (i9 : i + 6 ≤ sc.1) (hs : sc.1 ≤ 3072) (hu : u.1 ≤ 1112 ∧ u.2 ≤ 43168) (T : Two m1 R1 m2 R2 (ks.map (fun k => vI (scv sc (i + k)))) h r)
    (k : ∀ h2 r2, CpS h2 r2 → WPs sc (true, room_1) m_La_law X 2172 (lsL i) [] h2 r2 u) : WPs sc (true, room_1) m_La_law X pc0 (lsL i) [] h r u := by
  simp only [caseAt, Bool.and_eq_true] at hc
  obtain ⟨a0, a1, a2, a3, a4, a5, a6⟩ := hc
  obtain ⟨post, M1, T⟩ := T
  have hl : (ks.map (fun k => (vI (scv sc (i + k)) : mV))).length = ks.length := List.length_map _
  refine WPs.row (wq_aload_n (x := 0) (dcb_e a0) rfl rfl) ?_
  refine ws_args rfl rfl i0 i9 hs ks (pc0 + 1) _ a1 hk ?_
  refine ws_call (rest := []) (by rw [hl]; exact o1) (dcb_e a2) hu (by decide) M1 (fun rv h1 r1 hp => ?_)
  obtain ⟨post2, M2, T⟩ := T rv h1 r1 hp
  refine WPs.row (wq_aload_n (x := 64) (dcb_e a3) rfl rfl) ?_
  refine ws_args rfl rfl i0 i9 hs ks (pc0 + 1 + 6 * ks.length + 4) _ a4 hk ?_
  refine ws_call (rest := rv.toList ++ []) (by rw [hl]; exact o2) (dcb_e a5) hu (by cases rv <;> simp) M2 (fun rv' h2 r2 hp2 => ?_)
  obtain ⟨v, rfl, rfl, C⟩ := T rv' h2 r2 hp2
  refine WPs.step (Y := atX 2172 (lsL i) [] h2 r2 u) (wq_icmp_eq (q := pc0 + 1 + 6 * ks.length + 4 + 6 * ks.length + 6) (x := v) (y := v) (tgt := 2172) (dcb_e a6) rfl (by omega) (fun _ => WP.exit ⟨rfl, rfl, rfl, rfl, rfl, rfl⟩) (fun z => absurd rfl z)) ?_
  rintro _ _ _ _ _ _ ⟨rfl, rfl, rfl, rfl, rfl, rfl⟩
  exact k _ _ C
end CS

def t_Js_length : List (Nat × Instr × Nat) := [(0, (.aload_n 0, 1)), (1, (.getfield 9, 3)), (4, (.arraylength, 1)), (5, (.aload_n 0, 1)), (6, (.invokevirtual 335, 3)), (9, (.ishr, 1)), (10, (.ireturn, 1))]
theorem t_Js_length_ok : ∀ q ∈ t_Js_length, decode prog_19_method_54_code q.1 = .ok q.2 := by decide +kernel
def m_Js_length : mM := (⟨"java/lang/String", "length", "()I"⟩, prog_19_method_54_code, 1, (some .int), t_Js_length)
theorem ok_Js_length : mOK m_Js_length := ⟨by decide, tm 611 (by decide +kernel) rfl, t_Js_length_ok, tm 125 (by decide +kernel) rfl, by decide, by decide⟩
theorem vm_Js_length : mVt m_Js_length := ⟨tm 609 (by decide +kernel) rfl, tm 610 (by decide +kernel) rfl⟩
def t_Js_coder : List (Nat × Instr × Nat) := [(0, (.getstatic 38, 3)), (3, (.ifCond .eq 10, 3)), (6, (.aload_n 0, 1)), (7, (.getfield 15, 3)), (10, (.goto 4, 3)), (13, (.iconst 1, 1)), (14, (.ireturn, 1))]
theorem t_Js_coder_ok : ∀ q ∈ t_Js_coder, decode prog_19_method_152_code q.1 = .ok q.2 := by decide +kernel
def m_Js_coder : mM := (⟨"java/lang/String", "coder", "()B"⟩, prog_19_method_152_code, 1, (some .byte), t_Js_coder)
theorem ok_Js_coder : mOK m_Js_coder := ⟨by decide, tm 615 (by decide +kernel) rfl, t_Js_coder_ok, tm 125 (by decide +kernel) rfl, by decide, by decide⟩
theorem vm_Js_coder : mVt m_Js_coder := ⟨tm 613 (by decide +kernel) rfl, tm 614 (by decide +kernel) rfl⟩
def t_Js_charAt : List (Nat × Instr × Nat) := [(0, (.aload_n 0, 1)), (1, (.invokevirtual 492, 3)), (4, (.ifCond .eq 12, 3)), (7, (.aload_n 0, 1)), (8, (.getfield 9, 3)), (11, (.iload_n 1, 1)), (12, (.invokestatic 495, 3)), (15, (.ireturn, 1)), (16, (.aload_n 0, 1)), (17, (.getfield 9, 3)), (20, (.iload_n 1, 1)), (21, (.invokestatic 498, 3)), (24, (.ireturn, 1))]
theorem t_Js_charAt_ok : ∀ q ∈ t_Js_charAt, decode prog_19_method_56_code q.1 = .ok q.2 := by decide +kernel
def m_Js_charAt : mM := (⟨"java/lang/String", "charAt", "(I)C"⟩, prog_19_method_56_code, 2, (some .char), t_Js_charAt)
theorem ok_Js_charAt : mOK m_Js_charAt := ⟨by decide, tm 621 (by decide +kernel) rfl, t_Js_charAt_ok, tm 125 (by decide +kernel) rfl, by decide, by decide⟩
theorem vm_Js_charAt : mVt m_Js_charAt := ⟨tm 619 (by decide +kernel) rfl, tm 620 (by decide +kernel) rfl⟩
def t_Js_isLatin1 : List (Nat × Instr × Nat) := [(0, (.getstatic 38, 3)), (3, (.ifCond .eq 14, 3)), (6, (.aload_n 0, 1)), (7, (.getfield 15, 3)), (10, (.ifCond .ne 7, 3)), (13, (.iconst 1, 1)), (14, (.goto 4, 3)), (17, (.iconst 0, 1)), (18, (.ireturn, 1))]
theorem t_Js_isLatin1_ok : ∀ q ∈ t_Js_isLatin1, decode prog_19_method_154_code q.1 = .ok q.2 := by decide +kernel
def m_Js_isLatin1 : mM := (⟨"java/lang/String", "isLatin1", "()Z"⟩, prog_19_method_154_code, 1, (some .boolean), t_Js_isLatin1)
theorem ok_Js_isLatin1 : mOK m_Js_isLatin1 := ⟨by decide, tm 625 (by decide +kernel) rfl, t_Js_isLatin1_ok, tm 125 (by decide +kernel) rfl, by decide, by decide⟩
theorem vm_Js_isLatin1 : mVt m_Js_isLatin1 := ⟨tm 623 (by decide +kernel) rfl, tm 624 (by decide +kernel) rfl⟩
def t_Js_checkIndex : List (Nat × Instr × Nat) := [(0, (.iload_n 0, 1)), (1, (.iload_n 1, 1)), (2, (.getstatic 1053, 3)), (5, (.invokestatic 1059, 3)), (8, (.pop, 1)), (9, (.return_, 1))]
theorem t_Js_checkIndex_ok : ∀ q ∈ t_Js_checkIndex, decode prog_19_method_155_code q.1 = .ok q.2 := by decide +kernel
def m_Js_checkIndex : mM := (⟨"java/lang/String", "checkIndex", "(II)V"⟩, prog_19_method_155_code, 2, none, t_Js_checkIndex)
theorem ok_Js_checkIndex : mOK m_Js_checkIndex := ⟨by decide, tm 631 (by decide +kernel) rfl, t_Js_checkIndex_ok, tm 125 (by decide +kernel) rfl, by decide, by decide⟩
theorem sm_Js_checkIndex : Cond.static m_Js_checkIndex.1 ∈ t0_ws := tm 630 (by decide +kernel) rfl
def t_Jl_charAt : List (Nat × Instr × Nat) := [(0, (.iload_n 1, 1)), (1, (.aload_n 0, 1)), (2, (.arraylength, 1)), (3, (.invokestatic 9, 3)), (6, (.aload_n 0, 1)), (7, (.iload_n 1, 1)), (8, (.baload, 1)), (9, (.sipush 255, 3)), (12, (.iand, 1)), (13, (.i2c, 1)), (14, (.ireturn, 1))]
theorem t_Jl_charAt_ok : ∀ q ∈ t_Jl_charAt, decode prog_20_method_2_code q.1 = .ok q.2 := by decide +kernel
def m_Jl_charAt : mM := (⟨"java/lang/StringLatin1", "charAt", "([BI)C"⟩, prog_20_method_2_code, 2, (some .char), t_Jl_charAt)
theorem ok_Jl_charAt : mOK m_Jl_charAt := ⟨by decide, tm 628 (by decide +kernel) rfl, t_Jl_charAt_ok, tm 126 (by decide +kernel) rfl, by decide, by decide⟩
theorem sm_Jl_charAt : Cond.static m_Jl_charAt.1 ∈ t0_ws := tm 627 (by decide +kernel) rfl
def t_Jp_checkIndex : List (Nat × Instr × Nat) := [(0, (.iload_n 0, 1)), (1, (.ifCond .lt 8, 3)), (4, (.iload_n 0, 1)), (5, (.iload_n 1, 1)), (6, (.if_icmp .lt 10, 3)), (9, (.aload_n 2, 1)), (10, (.iload_n 0, 1)), (11, (.iload_n 1, 1)), (12, (.invokestatic 95, 3)), (15, (.athrow, 1)), (16, (.iload_n 0, 1)), (17, (.ireturn, 1))]
theorem t_Jp_checkIndex_ok : ∀ q ∈ t_Jp_checkIndex, decode prog_26_method_11_code q.1 = .ok q.2 := by decide +kernel
def m_Jp_checkIndex : mM := (⟨"jdk/internal/util/Preconditions", "checkIndex", "(IILjava/util/function/BiFunction;)I"⟩, prog_26_method_11_code, 3, (some .int), t_Jp_checkIndex)
theorem ok_Jp_checkIndex : mOK m_Jp_checkIndex := ⟨by decide, tm 636 (by decide +kernel) rfl, t_Jp_checkIndex_ok, tm 127 (by decide +kernel) rfl, by decide, by decide⟩
theorem sm_Jp_checkIndex : Cond.static m_Jp_checkIndex.1 ∈ t0_ws := tm 635 (by decide +kernel) rfl
theorem l_Re_170 : Cond.methodLink "LinkTimes$Reader" 170 m_Js_length.1 ∈ t0_ws := tm 608 (by decide +kernel) rfl
theorem l_Js_335 : Cond.methodLink "java/lang/String" 335 m_Js_coder.1 ∈ t0_ws := tm 612 (by decide +kernel) rfl
theorem f_Js_38 : Cond.fieldLink "java/lang/String" 38 "java/lang/String" "COMPACT_STRINGS" "Z" ∈ t0_ws := tm 616 (by decide +kernel) rfl
theorem l_Re_175 : Cond.methodLink "LinkTimes$Reader" 175 m_Js_charAt.1 ∈ t0_ws := tm 618 (by decide +kernel) rfl
theorem l_Js_492 : Cond.methodLink "java/lang/String" 492 m_Js_isLatin1.1 ∈ t0_ws := tm 622 (by decide +kernel) rfl
theorem l_Js_495 : Cond.methodLink "java/lang/String" 495 m_Jl_charAt.1 ∈ t0_ws := tm 626 (by decide +kernel) rfl
theorem l_Jl_9 : Cond.methodLink "java/lang/StringLatin1" 9 m_Js_checkIndex.1 ∈ t0_ws := tm 629 (by decide +kernel) rfl
theorem f_Js_1053 : Cond.fieldLink "java/lang/String" 1053 "jdk/internal/util/Preconditions" "SIOOBE_FORMATTER" "Ljava/util/function/BiFunction;" ∈ t0_ws := tm 632 (by decide +kernel) rfl
theorem l_Js_1059 : Cond.methodLink "java/lang/String" 1059 m_Jp_checkIndex.1 ∈ t0_ws := tm 634 (by decide +kernel) rfl
theorem l_Mo_114 : Cond.methodLink "LinkTimesModel" 114 m_Js_length.1 ∈ t0_ws := tm 1424 (by decide +kernel) rfl
theorem l_Mo_120 : Cond.methodLink "LinkTimesModel" 120 m_Js_charAt.1 ∈ t0_ws := tm 1425 (by decide +kernel) rfl
theorem f_Js_9 : Cond.fieldLink "java/lang/String" 9 "java/lang/String" "value" "[B" ∈ t0_ws := tm 1847 (by decide +kernel) rfl
theorem f_Js_15 : Cond.fieldLink "java/lang/String" 15 "java/lang/String" "coder" "B" ∈ t0_ws := tm 1848 (by decide +kernel) rfl
section ST
variable {E : mE} {m : mM} {X : mX} {pc q : Nat} {ls : mL} {st : List mV} {h : mH} {r : mR} {u : mU}
theorem wq_ldcs {idx j : Nat} (hw : (m.1.cls, idx, j) ∈ strW) (hj : j < 1000) (hd : dc m pc = some (.ldc idx, 2)) (hq : pc + 2 = q) (k : WP E m X q ls (vR (sBase + j) :: st) h r u) : WP E m X pc ls st h r u := by
  intro G p l e s mid args below meth c Q ad0 n0 hC hX ad H locs lsA hag hn hR hS hL hst
  subst hq
  have hsf := hC.2.2.2.2.2.2.2.2.1
  have hZ := hsf.2.2.2.2.1 _ hw
  have ha := (hR.2.2.2.2.2.2.1 j hj).1
  rw [← ha] at hZ
  exact va_ldcS hC.1 hC.2.1 hC.2.2.2.2.1 hZ (mdc hC hd) (k G p l e s mid args below meth c Q ad0 n0 hC hX ad H locs lsA hag hn hR hS hL (ok_cons (v := vR (sBase + j)) (Or.inr (Nat.le_add_right _ _)) hst))
theorem wq_sval {idx j : Nat} (hf : Cond.fieldLink m.1.cls idx "java/lang/String" "value" "[B" ∈ t0_ws) (hj : j < 11) (hd : dc m pc = some (.getfield idx, 3)) (hq : pc + 3 = q) (k : WP E m X q ls (vR (sBase + 1000 + j) :: st) h r u) : WP E m X pc ls (vR (sBase + j) :: st) h r u := by
  intro G p l e s mid args below meth c Q ad0 n0 hC hX ad H locs lsA hag hn hR hS hL hst
  subst hq
  have hsf := hC.2.2.2.2.2.2.2.2.1
  have hE := (hsf.2.2.2.1.1 j hj).2.2.1
  have ha := hR.2.2.2.2.2.2.1 j (by omega)
  rw [← ha.1, ← ha.2] at hE
  exact vk_getf hC.1 hC.2.1 hE hS hC.2.2.2.2.1 (hC.2.2.2.2.2.2.2.1 _ hf) (fun _ hx => hx) (mdc hC hd) (k G p l e s mid args below meth c Q ad0 n0 hC hX ad H locs lsA hag hn hR hS hL (ok_cons (v := vR (sBase + 1000 + j)) (Or.inr (by omega)) (ok_tl hst)))
theorem wq_scod {idx j : Nat} (hf : Cond.fieldLink m.1.cls idx "java/lang/String" "coder" "B" ∈ t0_ws) (hj : j < 11) (hd : dc m pc = some (.getfield idx, 3)) (hq : pc + 3 = q) (k : WP E m X q ls (vI 0 :: st) h r u) : WP E m X pc ls (vR (sBase + j) :: st) h r u := by
  intro G p l e s mid args below meth c Q ad0 n0 hC hX ad H locs lsA hag hn hR hS hL hst
  subst hq
  have hsf := hC.2.2.2.2.2.2.2.2.1
  have hE := (hsf.2.2.2.1.1 j hj).2.1
  have ha := hR.2.2.2.2.2.2.1 j (by omega)
  rw [← ha.1] at hE
  exact vk_getf hC.1 hC.2.1 hE hS hC.2.2.2.2.1 (hC.2.2.2.2.2.2.2.1 _ hf) (fun _ hx => hx) (mdc hC hd) (k G p l e s mid args below meth c Q ad0 n0 hC hX ad H locs lsA hag hn hR hS hL (ok_cons (v := vI 0) oi_0 (ok_tl hst)))
theorem wq_comp {idx : Nat} (hf : Cond.fieldLink m.1.cls idx "java/lang/String" "COMPACT_STRINGS" "Z" ∈ t0_ws) (hd : dc m pc = some (.getstatic idx, 3)) (hq : pc + 3 = q) (k : WP E m X q ls (vI 1 :: st) h r u) : WP E m X pc ls st h r u := by
  intro G p l e s mid args below meth c Q ad0 n0 hC hX ad H locs lsA hag hn hR hS hL hst
  subst hq
  have hsf := hC.2.2.2.2.2.2.2.2.1
  exact va_gets hC.1 hC.2.1 hsf.2.2.2.2.2.1 hS hC.2.2.2.2.1 (hC.2.2.2.2.2.2.2.1 _ hf) (fun _ hx => hx) (mdc hC hd) (k G p l e s mid args below meth c Q ad0 n0 hC hX ad H locs lsA hag hn hR hS hL (ok_cons (v := vI 1) (by show okI 1; unfold okI; omega) hst))
theorem wq_fmt {idx : Nat} (hf : Cond.fieldLink m.1.cls idx "jdk/internal/util/Preconditions" "SIOOBE_FORMATTER" "Ljava/util/function/BiFunction;" ∈ t0_ws) (hd : dc m pc = some (.getstatic idx, 3)) (hq : pc + 3 = q) (k : ∀ t : Option Nat, WP E m X q ls (.inr (.inr t) :: st) h r u) : WP E m X pc ls st h r u := by
  intro G p l e s mid args below meth c Q ad0 n0 hC hX ad H locs lsA hag hn hR hS hL hst
  subst hq
  have hsf := hC.2.2.2.2.2.2.2.2.1
  obtain ⟨v, hZ, hv⟩ := hsf.2.2.2.2.2.2.1
  have hv' : ∃ t : Option Nat, v = toV ad (.inr (.inr t)) ∧ okV r.2 (.inr (.inr t)) := by
    rcases hv with rfl | rfl
    · exact ⟨none, rfl, trivial⟩
    · refine ⟨some (sScr + 1), ?_, Or.inr (show (100000 : Nat) ≤ 200000 + 1 by omega)⟩
      show _ = Value.ref (ad (sScr + 1))
      rw [hR.2.2.2.2.2.2.2.2]
  obtain ⟨t, rfl, ht⟩ := hv'
  exact va_gets hC.1 hC.2.1 hZ hS hC.2.2.2.2.1 (hC.2.2.2.2.2.2.2.1 _ hf) (fun _ hx => hx) (mdc hC hd) (k t G p l e s mid args below meth c Q ad0 n0 hC hX ad H locs lsA hag hn hR hS hL (ok_cons ht hst))
def sLen (j : Nat) : Nat := lnS.getD j 0
def sCh (j : Nat) (x : Int) : Int := ((byS.getD j []).getD x.toNat 0).toInt
theorem sLen_ok : ∀ j, j < 11 → okb (sLen j) = true := by decide
theorem wq_slen {j : Nat} (hj : j < 11) (hd : dc m pc = some (.arraylength, 1)) (hq : pc + 1 = q) (k : WP E m X q ls (vI (sLen j) :: st) h r u) : WP E m X pc ls (vR (sBase + 1000 + j) :: st) h r u := by
  intro G p l e s mid args below meth c Q ad0 n0 hC hX ad H locs lsA hag hn hR hS hL hst
  subst hq
  have hsf := hC.2.2.2.2.2.2.2.2.1
  have hE := (hsf.2.2.2.1.1 j hj).2.2.2
  have ha := hR.2.2.2.2.2.2.1 j (by omega)
  rw [← ha.2] at hE
  exact va_tlen hC.1 hC.2.1 hE hS rfl (mdc hC hd) (k G p l e s mid args below meth c Q ad0 n0 hC hX ad H locs lsA hag hn hR hS hL (ok_cons (v := vI (sLen j)) (okb_spec (sLen_ok j hj)) (ok_tl hst)))
theorem wq_sch {j : Nat} {x : Int} (hj : j < 11) (h0 : 0 ≤ x) (h1 : x < sLen j) (hd : dc m pc = some (.baload, 1)) (hq : pc + 1 = q) (k : WP E m X q ls (vI (sCh j x) :: st) h r u) : WP E m X pc ls (vI x :: vR (sBase + 1000 + j) :: st) h r u := by
  intro G p l e s mid args below meth c Q ad0 n0 hC hX ad H locs lsA hag hn hR hS hL hst
  subst hq
  have hsf := hC.2.2.2.2.2.2.2.2.1
  have hx : okI x := ok_hd hst
  have hE := (hsf.2.2.2.1.1 j hj).2.2.2
  have ha := hR.2.2.2.2.2.2.1 j (by omega)
  rw [← ha.2] at hE
  exact va_tb hC.1 hC.2.1 hE hS (oi_in hx h0 h1) (v := toV ad (vI (sCh j x))) (by show Value.int _ = Value.int (Int32.ofInt (sCh j x)); unfold sCh; rw [oi_rt, oi_clamp hx h0]) (mdc hC hd) (k G p l e s mid args below meth c Q ad0 n0 hC hX ad H locs lsA hag hn hR hS hL (ok_cons (v := vI (sCh j x)) (oi_of _) (ok_tl (ok_tl hst))))
theorem wq_i2c {x : Int} (hx0 : 0 ≤ x) (hx1 : x < 65536) (hd : dc m pc = some (.i2c, 1)) (hq : pc + 1 = q) (k : WP E m X q ls (vI x :: st) h r u) : WP E m X pc ls (vI x :: st) h r u := by
  intro G p l e s mid args below meth c Q ad0 n0 hC hX ad H locs lsA hag hn hR hS hL hst
  subst hq
  have hx : okI x := ok_hd hst
  have e0 : Int32.ofInt x = nI x.toNat := by
    rw [← Int32.toInt_inj, oi_toInt hx, nI_toInt (by omega)]
    omega
  refine lv_i2c hC.1 hC.2.1 (mdc hC hd) (v := Int32.ofInt x) ?_ (k G p l e s mid args below meth c Q ad0 n0 hC hX ad H locs lsA hag hn hR hS hL hst)
  rw [pk_char, e0, pk_tn (by omega)]
  congr 1
  omega
theorem wq_callVs {idx : Nat} {m' : mM} {R' : Room} {As rest : List mV} {j : Nat} {post : mP} (hd : dc m pc = some (.invokevirtual idx, 3)) (hq : pc + 3 = q) (hl : Cond.methodLink m.1.cls idx m'.1 ∈ t0_ws) (hv : mVt m') (hcs : m'.1.cls = "java/lang/String")
    (hpar : (parseMethodDescriptor m'.1.desc).map (fun d => d.parameters.length) = some As.length) (hj : j < 11)
    (hR1 : R'.frames + 1 ≤ E.2.frames) (hR2 : 8 + (m'.2.2.1 + 11) + R'.locals ≤ E.2.locals) (hb1 : u.1 + R'.cells ≤ E.2.cells) (hb2 : u.2 + R'.slots ≤ E.2.slots) (hrest : rest.length ≤ 4)
    (hM : Meets E.1 R' m' (vR (sBase + j) :: As) h r post) (hs : st = As.reverse ++ vR (sBase + j) :: rest)
    (k : ∀ rv h' r', post rv h' r' → r.2 ≤ r'.2 → WP E m X q ls (rv.toList ++ rest) h' r' (u.1 + R'.cells, u.2 + R'.slots)) : WP E m X pc ls st h r u := by
  intro G p l e s mid args below meth c Q ad0 n0 hC hX ad H locs lsA hag hn hR hS hL hst
  have hm' := hM.1
  have hts : ∀ w ∈ t0_ws, w.before args s = true := hC.2.2.2.2.2.2.2.1
  have hG : GoodIn t0_ws (mWs m') := fun w hw => ⟨by rcases List.mem_cons.mp hw with rfl | hw; exact hm'.2.1; exact hw, (good_t0 (m := m) hm' w hw).2⟩
  have cw : CallW E.2 s args m.1.cls m'.1.cls idx m'.1 m'.2.1 m'.2.2.1 m'.2.2.2.1 (mWs m') R' R'.cells R'.slots As.length :=
    ⟨callB_of As.length hts hG rfl rfl rfl (hts _ hm'.2.2.2.1) (hts _ hl) ⟨hm'.2.2.2.2.1, hm'.2.2.2.2.2, hpar⟩ ⟨hR1, hR2⟩, hts _ hv.1, hts _ hv.2⟩
  have hsf := hC.2.2.2.2.2.2.2.2.1
  have hrecv : ∃ cell : Cell, H[ad (sBase + j)]? = some cell ∧ cell.vm.isStatics = false ∧ s.vm.findClass m'.1.cls = some cell.cls := by
    rw [(hR.2.2.2.2.2.2.1 j (by omega)).1, hcs]
    exact vk_recv hsf.2.2.2.1 hj hS
  subst hs
  have hst' : ∀ v ∈ rest, okV r.2 v := fun v hv => hst v (List.mem_append_right _ (List.mem_cons_of_mem _ hv))
  have hav : ∀ v ∈ vR (sBase + j) :: As, okV r.2 v := fun v hv => by
    rcases List.mem_cons.mp hv with rfl | hv
    · exact hst _ (List.mem_append_right _ List.mem_cons_self)
    · exact hst v (List.mem_append_left _ (List.mem_reverse.mpr hv))
  refine call_back hC hX hag hn hS hL hst' (va_runV (Ts := t0_ws) (cc := m.2.1) (nL := m.2.2.1) (own := m.1.cls) (C := m'.1.cls) (As := As.map (toV ad)) (b := ad (sBase + j)) ⟨hC.1, hC.2.1, hC.2.2.2.1, hC.2.2.2.2.1, hts⟩ (hM.met l G ad) cw ⟨mPre.blind, hrecv, fun U hU hW => ⟨rfl, hsf.warm hW hU hS, by rw [hU]; exact hR, hav⟩⟩ rfl (by simp) hL.1 (by simp [toV]) (cats_sum hrest) (mdc hC hd) ⟨hb1, hb2⟩) hq k
end ST
theorem sh0 (x : Int) : (Int32.ofInt x >>> (Int32.ofInt 0 &&& 31)).toInt = (Int32.ofInt x).toInt := by
  have : (Int32.ofInt 0 &&& 31) = (0 : Int32) := by decide
  rw [this]
  simp
section JD
variable {h : mH} {r : mR} {g : Bool} {j : Nat}
theorem Js_coder_ok (hj : j < 11) : Meets g (rm 1) m_Js_coder [vR (sBase + j)] h r (pI 0 h r) := by
  refine ⟨ok_Js_coder, Nat.le_of_ble_eq_true rfl, ?_⟩
  refine wq_comp (q := 3) f_Js_38 rfl rfl ?_
  refine wq_if_eq (tgt := 13) (q := 6) rfl rfl rfl (fun c => absurd c (by decide)) (fun _ => ?_)
  refine wq_aload_n (kk := 0) (q := 7) rfl rfl rfl ?_
  refine wq_scod (q := 10) f_Js_15 hj rfl rfl ?_
  refine wq_goto (tgt := 14) rfl rfl ?_
  exact WP.exit ⟨Nat.le_refl _, Nat.le_refl _, Or.inl ⟨rfl, 0, rfl, ⟨_, rfl, by decide⟩, rfl, rfl, rfl⟩⟩
theorem Js_isLatin1_ok (hj : j < 11) : Meets g (rm 1) m_Js_isLatin1 [vR (sBase + j)] h r (pI 1 h r) := by
  refine ⟨ok_Js_isLatin1, Nat.le_of_ble_eq_true rfl, ?_⟩
  refine wq_comp (q := 3) f_Js_38 rfl rfl ?_
  refine wq_if_eq (tgt := 17) (q := 6) rfl rfl rfl (fun c => absurd c (by decide)) (fun _ => ?_)
  refine wq_aload_n (kk := 0) (q := 7) rfl rfl rfl ?_
  refine wq_scod (q := 10) f_Js_15 hj rfl rfl ?_
  refine wq_if_ne (tgt := 17) (q := 13) rfl rfl rfl (fun c => absurd rfl c) (fun _ => ?_)
  refine wq_iconst (n := 1) (q := 14) rfl rfl rfl ?_
  refine wq_goto (tgt := 18) rfl rfl ?_
  exact WP.exit ⟨Nat.le_refl _, Nat.le_refl _, Or.inl ⟨rfl, 1, rfl, ⟨_, rfl, by decide⟩, rfl, rfl, rfl⟩⟩
theorem Js_length_ok (hj : j < 11) : Meets g (rm 2) m_Js_length [vR (sBase + j)] h r (pI (sLen j) h r) := by
  refine ⟨ok_Js_length, Nat.le_of_ble_eq_true rfl, ?_⟩
  refine wq_aload_n (kk := 0) (q := 1) rfl rfl rfl ?_
  refine wq_sval (q := 4) f_Js_9 hj rfl rfl ?_
  refine wq_slen (q := 5) hj rfl rfl ?_
  refine wq_aload_n (kk := 0) (q := 6) rfl rfl rfl ?_
  refine wq_callVs (q := 9) (m' := m_Js_coder) (R' := rm 1) (As := []) (rest := [vI (sLen j)]) rfl rfl l_Js_335 vm_Js_coder rfl rfl hj (Nat.le_of_ble_eq_true rfl) (Nat.le_of_ble_eq_true rfl) (Nat.le_refl _) (Nat.le_refl _) (Nat.le_of_ble_eq_true rfl) (Js_coder_ok hj) rfl ?_
  rintro rv h' r' ⟨rfl, rfl, rfl⟩ -
  refine wq_ishr (q := 10) rfl rfl ?_
  have e : (Int32.ofInt (sLen j : Int) >>> (Int32.ofInt 0 &&& 31)).toInt = (sLen j : Int) := by
    rw [sh0]
    have : ∀ j, j < 11 → (Int32.ofInt (sLen j : Int)).toInt = (sLen j : Int) := by decide
    exact this j hj
  rw [e]
  exact wq_iret rfl rfl (Nat.le_refl _) (Nat.le_refl _) ⟨rfl, rfl, rfl⟩
theorem Jp_checkIndex_ok {x n : Int} {t : Option Nat} (h0 : 0 ≤ x) (h1 : x < n) : Meets g (rm 1) m_Jp_checkIndex [vI x, vI n, .inr (.inr t)] h r (pI x h r) := by
  refine ⟨ok_Jp_checkIndex, Nat.le_of_ble_eq_true rfl, ?_⟩
  refine wq_iload_n (kk := 0) (q := 1) rfl rfl rfl ?_
  refine wq_if_lt (tgt := 9) (q := 4) rfl rfl rfl (fun c => absurd h0 (by omega)) (fun _ => ?_)
  refine wq_iload_n (kk := 0) (q := 5) rfl rfl rfl ?_
  refine wq_iload_n (kk := 1) (q := 6) rfl rfl rfl ?_
  refine wq_icmp_lt (tgt := 16) (q := 9) rfl rfl rfl (fun _ => ?_) (fun c => absurd h1 c)
  refine wq_iload_n (kk := 0) (q := 17) rfl rfl rfl ?_
  exact wq_iret rfl rfl (Nat.le_refl _) (Nat.le_refl _) ⟨rfl, rfl, rfl⟩
theorem Js_checkIndex_ok {x n : Int} (h0 : 0 ≤ x) (h1 : x < n) : Meets g (rm 2) m_Js_checkIndex [vI x, vI n] h r (pU h r) := by
  refine ⟨ok_Js_checkIndex, Nat.le_of_ble_eq_true rfl, ?_⟩
  refine wq_iload_n (kk := 0) (q := 1) rfl rfl rfl ?_
  refine wq_iload_n (kk := 1) (q := 2) rfl rfl rfl ?_
  refine wq_fmt (q := 5) f_Js_1053 rfl rfl (fun t => ?_)
  refine wq_callS (q := 8) (m' := m_Jp_checkIndex) (R' := rm 1) (As := [vI x, vI n, .inr (.inr t)]) (rest := []) rfl rfl l_Js_1059 sm_Jp_checkIndex rfl (Nat.le_of_ble_eq_true rfl) (Nat.le_of_ble_eq_true rfl) (Nat.le_refl _) (Nat.le_refl _) (Nat.le_of_ble_eq_true rfl) (Jp_checkIndex_ok h0 h1) rfl ?_
  rintro rv h' r' ⟨rfl, rfl, rfl⟩ -
  refine wq_pop (q := 9) rfl rfl rfl ?_
  exact wq_vret rfl rfl (Nat.le_refl _) (Nat.le_refl _) ⟨rfl, rfl, rfl⟩
theorem sCh_and : ∀ j, j < 11 → ∀ x : Nat, x < sLen j → (Int32.ofInt (sCh j x) &&& Int32.ofInt 255).toInt = sCh j x ∧ 97 ≤ sCh j x ∧ sCh j x ≤ 122 := by decide
theorem Jl_charAt_ok {x : Int} (hj : j < 11) (h0 : 0 ≤ x) (h1 : x < sLen j) : Meets g (rm 3) m_Jl_charAt [vR (sBase + 1000 + j), vI x] h r (pI (sCh j x) h r) := by
  obtain ⟨n, rfl⟩ := Int.eq_ofNat_of_zero_le h0
  obtain ⟨z1, z2, z3⟩ := sCh_and j hj n (by omega)
  refine ⟨ok_Jl_charAt, Nat.le_of_ble_eq_true rfl, ?_⟩
  refine wq_iload_n (kk := 1) (q := 1) rfl rfl rfl ?_
  refine wq_aload_n (kk := 0) (q := 2) rfl rfl rfl ?_
  refine wq_slen (q := 3) hj rfl rfl ?_
  refine wq_callS (q := 6) (m' := m_Js_checkIndex) (R' := rm 2) (As := [vI n, vI (sLen j)]) (rest := []) rfl rfl l_Jl_9 sm_Js_checkIndex rfl (Nat.le_of_ble_eq_true rfl) (Nat.le_of_ble_eq_true rfl) (Nat.le_refl _) (Nat.le_refl _) (Nat.le_of_ble_eq_true rfl) (Js_checkIndex_ok h0 h1) rfl ?_
  rintro rv h' r' ⟨rfl, rfl, rfl⟩ -
  refine wq_aload_n (kk := 0) (q := 7) rfl rfl rfl ?_
  refine wq_iload_n (kk := 1) (q := 8) rfl rfl rfl ?_
  refine wq_sch (q := 9) hj h0 h1 rfl rfl ?_
  refine wq_sipush (n := 255) (q := 12) rfl rfl rfl ?_
  refine wq_iand (q := 13) rfl rfl ?_
  rw [z1]
  refine wq_i2c (q := 14) (by omega) (by omega) rfl rfl ?_
  refine WP.exit ⟨Nat.le_refl _, Nat.le_refl _, Or.inl ⟨rfl, sCh j n, rfl, ⟨.char, rfl, ?_⟩, rfl, rfl, rfl⟩⟩
  have e0 : Int32.ofInt (sCh j n) = nI (sCh j n).toNat := by
    rw [← Int32.toInt_inj, oi_toInt (by unfold okI; omega), nI_toInt (by omega)]
    omega
  rw [e0]
  exact (pk_charN (by omega)).1
theorem Js_charAt_ok {x : Int} (hj : j < 11) (h0 : 0 ≤ x) (h1 : x < sLen j) : Meets g (rm 4) m_Js_charAt [vR (sBase + j), vI x] h r (pI (sCh j x) h r) := by
  refine ⟨ok_Js_charAt, Nat.le_of_ble_eq_true rfl, ?_⟩
  refine wq_aload_n (kk := 0) (q := 1) rfl rfl rfl ?_
  refine wq_callVs (q := 4) (m' := m_Js_isLatin1) (R' := rm 1) (As := []) (rest := []) rfl rfl l_Js_492 vm_Js_isLatin1 rfl rfl hj (Nat.le_of_ble_eq_true rfl) (Nat.le_of_ble_eq_true rfl) (Nat.le_refl _) (Nat.le_refl _) (Nat.le_of_ble_eq_true rfl) (Js_isLatin1_ok hj) rfl ?_
  rintro rv h' r' ⟨rfl, rfl, rfl⟩ -
  refine wq_if_eq (tgt := 16) (q := 7) rfl rfl rfl (fun c => absurd c (by decide)) (fun _ => ?_)
  refine wq_aload_n (kk := 0) (q := 8) rfl rfl rfl ?_
  refine wq_sval (q := 11) f_Js_9 hj rfl rfl ?_
  refine wq_iload_n (kk := 1) (q := 12) rfl rfl rfl ?_
  refine wq_callS (q := 15) (m' := m_Jl_charAt) (R' := rm 3) (As := [vR (sBase + 1000 + j), vI x]) (rest := []) rfl rfl l_Js_495 sm_Jl_charAt rfl (Nat.le_of_ble_eq_true rfl) (Nat.le_of_ble_eq_true rfl) (Nat.le_refl _) (Nat.le_refl _) (Nat.le_of_ble_eq_true rfl) (Jl_charAt_ok hj h0 h1) rfl ?_
  rintro rv h' r' ⟨rfl, rfl, rfl⟩ -
  obtain ⟨n, rfl⟩ := Int.eq_ofNat_of_zero_le h0
  obtain ⟨z1, z2, z3⟩ := sCh_and j hj n (by omega)
  refine WP.exit ⟨Nat.le_refl _, Nat.le_refl _, Or.inl ⟨rfl, sCh j n, rfl, ⟨.char, rfl, ?_⟩, rfl, rfl, rfl⟩⟩
  have e0 : Int32.ofInt (sCh j n) = nI (sCh j n).toNat := by
    rw [← Int32.toInt_inj, oi_toInt (by unfold okI; omega), nI_toInt (by omega)]
    omega
  rw [e0]
  exact (pk_charN (by omega)).1
end JD


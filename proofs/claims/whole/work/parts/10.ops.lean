section OPS
variable {E : mE} {m : mM} {X : mX} {pc q : Nat} {ls : mL} {st : List mV} {h : mH} {r : mR} {u : mU}
def okb (n : Int) : Bool := decide (-2147483648 ≤ n) && decide (n ≤ 2147483647)
theorem okb_spec {n : Int} (h : okb n = true) : okI n := by
  simp only [okb, Bool.and_eq_true, decide_eq_true_eq] at h
  exact h
theorem i8_of {n : Int} (h : (decide (-128 ≤ n) && decide (n ≤ 127)) = true) : (Int8.ofInt n).toInt32 = Int32.ofInt n := by
  simp only [Bool.and_eq_true, decide_eq_true_eq] at h
  rw [← Int32.toInt_inj, Int8.toInt_toInt32, Int8.toInt_ofInt, oi_toInt (by unfold okI; omega)]
  rw [Int.bmod_eq_of_le] <;> simp only [Int8.size] at * <;> omega
theorem i16_of {n : Int} (h : (decide (-32768 ≤ n) && decide (n ≤ 32767)) = true) : (Int16.ofInt n).toInt32 = Int32.ofInt n := by
  simp only [Bool.and_eq_true, decide_eq_true_eq] at h
  rw [← Int32.toInt_inj, Int16.toInt_toInt32, Int16.toInt_ofInt, oi_toInt (by unfold okI; omega)]
  rw [Int.bmod_eq_of_le] <;> simp only [Int16.size] at * <;> omega
theorem ok_cons {b : Nat} {v : mV} {st : List mV} (hv : okV b v) (h : ∀ w ∈ st, okV b w) : ∀ w ∈ v :: st, okV b w := fun w hw => (List.mem_cons.mp hw).elim (fun e => e ▸ hv) (h w)
theorem ok_tl {b : Nat} {v : mV} {st : List mV} (h : ∀ w ∈ v :: st, okV b w) : ∀ w ∈ st, okV b w := fun w hw => h w (List.mem_cons_of_mem _ hw)
theorem ok_hd {b : Nat} {v : mV} {st : List mV} (h : ∀ w ∈ v :: st, okV b w) : okV b v := h v List.mem_cons_self
theorem wq_iconst {n : Int} (hd : dc m pc = some (.iconst n, 1)) (hq : pc + 1 = q) (ho : okb n = true) (k : WP E m X q ls (vI n :: st) h r u) : WP E m X pc ls st h r u := by
  intro G p l e s mid args below meth c Q ad0 n0 hC hX ad H locs lsA hag hn hR hS hL hst
  subst hq
  exact lv_iconst hC.1 hC.2.1 (mdc hC hd) rfl (k G p l e s mid args below meth c Q ad0 n0 hC hX ad H locs lsA hag hn hR hS hL (ok_cons (v := vI n) (okb_spec ho) hst))
theorem wq_bipush {n : Int} (hd : dc m pc = some (.bipush n, 2)) (hq : pc + 2 = q) (ho : (decide (-128 ≤ n) && decide (n ≤ 127)) = true) (k : WP E m X q ls (vI n :: st) h r u) : WP E m X pc ls st h r u := by
  intro G p l e s mid args below meth c Q ad0 n0 hC hX ad H locs lsA hag hn hR hS hL hst
  subst hq
  exact lv_bipush hC.1 hC.2.1 (mdc hC hd) (i8_of ho) (k G p l e s mid args below meth c Q ad0 n0 hC hX ad H locs lsA hag hn hR hS hL (ok_cons (v := vI n) (by simp only [Bool.and_eq_true, decide_eq_true_eq] at ho; show okI n; unfold okI; omega) hst))
theorem wq_sipush {n : Int} (hd : dc m pc = some (.sipush n, 3)) (hq : pc + 3 = q) (ho : (decide (-32768 ≤ n) && decide (n ≤ 32767)) = true) (k : WP E m X q ls (vI n :: st) h r u) : WP E m X pc ls st h r u := by
  intro G p l e s mid args below meth c Q ad0 n0 hC hX ad H locs lsA hag hn hR hS hL hst
  subst hq
  exact lv_sipush hC.1 hC.2.1 (mdc hC hd) (i16_of ho) (k G p l e s mid args below meth c Q ad0 n0 hC hX ad H locs lsA hag hn hR hS hL (ok_cons (v := vI n) (by simp only [Bool.and_eq_true, decide_eq_true_eq] at ho; show okI n; unfold okI; omega) hst))
theorem wq_ldc {ix : Nat} {n : Int} (hw : Cond.constant m.1.cls ix (Int32.ofInt n) ∈ t0_ws) (hd : dc m pc = some (.ldc ix, 2)) (hq : pc + 2 = q) (ho : okb n = true) (k : WP E m X q ls (vI n :: st) h r u) : WP E m X pc ls st h r u := by
  intro G p l e s mid args below meth c Q ad0 n0 hC hX ad H locs lsA hag hn hR hS hL hst
  subst hq
  exact lv_ldc hC.1 hC.2.1 hC.2.2.2.2.1 (hC.2.2.2.2.2.2.2.1 _ hw) (mdc hC hd) (k G p l e s mid args below meth c Q ad0 n0 hC hX ad H locs lsA hag hn hR hS hL (ok_cons (v := vI n) (okb_spec ho) hst))
theorem wq_ldcw {ix : Nat} {n : Int} (hw : Cond.constant m.1.cls ix (Int32.ofInt n) ∈ t0_ws) (hd : dc m pc = some (.ldc_w ix, 3)) (hq : pc + 3 = q) (ho : okb n = true) (k : WP E m X q ls (vI n :: st) h r u) : WP E m X pc ls st h r u := by
  intro G p l e s mid args below meth c Q ad0 n0 hC hX ad H locs lsA hag hn hR hS hL hst
  subst hq
  exact lv_ldcw hC.1 hC.2.1 hC.2.2.2.2.1 (hC.2.2.2.2.2.2.2.1 _ hw) (mdc hC hd) (k G p l e s mid args below meth c Q ad0 n0 hC hX ad H locs lsA hag hn hR hS hL (ok_cons (v := vI n) (okb_spec ho) hst))
theorem wq_ldc2 {ix : Nat} {n : Int} (hw : Cond.constantLong m.1.cls ix (Int64.ofInt n) ∈ t0_ws) (hd : dc m pc = some (.ldc2_w ix, 3)) (hq : pc + 3 = q) (ho : okb n = true) (k : WP E m X q ls (vJ n :: st) h r u) : WP E m X pc ls st h r u := by
  intro G p l e s mid args below meth c Q ad0 n0 hC hX ad H locs lsA hag hn hR hS hL hst
  subst hq
  exact lv_ldc2 hC.1 hC.2.1 hC.2.2.2.2.1 (hC.2.2.2.2.2.2.2.1 _ hw) (mdc hC hd) (k G p l e s mid args below meth c Q ad0 n0 hC hX ad H locs lsA hag hn hR hS hL (ok_cons (v := vJ n) (by have := okb_spec ho; unfold okI at this; show okJ n; unfold okJ; omega) hst))
theorem wq_lconst0 (hd : dc m pc = some (.lconst 0, 1)) (hq : pc + 1 = q) (k : WP E m X q ls (vJ 0 :: st) h r u) : WP E m X pc ls st h r u := by
  intro G p l e s mid args below meth c Q ad0 n0 hC hX ad H locs lsA hag hn hR hS hL hst
  subst hq
  exact lv_lconst hC.1 hC.2.1 (mdc hC hd) (v := Int64.ofInt 0) (by decide) (k G p l e s mid args below meth c Q ad0 n0 hC hX ad H locs lsA hag hn hR hS hL (ok_cons (v := vJ 0) (by show okJ 0; unfold okJ; omega) hst))
theorem wq_iload_n {kk : Fin 4} {x : Int} (hd : dc m pc = some (.iload_n kk, 1)) (hq : pc + 1 = q) (hl : ls[(kk : Nat)]? = some (some (vI x))) (k : WP E m X q ls (vI x :: st) h r u) : WP E m X pc ls st h r u := by
  intro G p l e s mid args below meth c Q ad0 n0 hC hX ad H locs lsA hag hn hR hS hL hst
  subst hq
  have z := hL.2.2.2 _ _ hl
  exact lv_iload_n hC.1 hC.2.1 (mdc hC hd) rfl z.1 (k G p l e s mid args below meth c Q ad0 n0 hC hX ad H locs lsA hag hn hR hS hL (ok_cons z.2 hst))
theorem wq_iload {i : Nat} {x : Int} (hd : dc m pc = some (.iload i, 2)) (hq : pc + 2 = q) (hl : ls[i]? = some (some (vI x))) (k : WP E m X q ls (vI x :: st) h r u) : WP E m X pc ls st h r u := by
  intro G p l e s mid args below meth c Q ad0 n0 hC hX ad H locs lsA hag hn hR hS hL hst
  subst hq
  have z := hL.2.2.2 _ _ hl
  exact lv_iload hC.1 hC.2.1 (mdc hC hd) z.1 (k G p l e s mid args below meth c Q ad0 n0 hC hX ad H locs lsA hag hn hR hS hL (ok_cons z.2 hst))
theorem wq_istore_n {kk : Fin 4} {x : Int} (hd : dc m pc = some (.istore_n kk, 1)) (hq : pc + 1 = q) (hi : (kk : Nat) < m.2.2.1) (hp : pvOK ls (kk : Nat) = true) (k : WP E m X q (ls.set (kk : Nat) (some (vI x))) st h r u) : WP E m X pc ls (vI x :: st) h r u := by
  intro G p l e s mid args below meth c Q ad0 n0 hC hX ad H locs lsA hag hn hR hS hL hst
  subst hq
  refine lv_istore_n hC.1 hC.2.1 (mdc hC hd) rfl hL.has hi rfl (fun ls1 hl1 => ?_)
  exact k G p l e s mid args below meth c Q ad0 n0 hC hX ad H locs ls1 hag hn hR hS (hL.st1 (ok_hd hst) hp hl1) (ok_tl hst)
theorem wq_istore {i : Nat} {x : Int} (hd : dc m pc = some (.istore i, 2)) (hq : pc + 2 = q) (hi : i < m.2.2.1) (hp : pvOK ls i = true) (k : WP E m X q (ls.set i (some (vI x))) st h r u) : WP E m X pc ls (vI x :: st) h r u := by
  intro G p l e s mid args below meth c Q ad0 n0 hC hX ad H locs lsA hag hn hR hS hL hst
  subst hq
  refine lv_istore hC.1 hC.2.1 (mdc hC hd) hL.has hi rfl (fun ls1 hl1 => ?_)
  exact k G p l e s mid args below meth c Q ad0 n0 hC hX ad H locs ls1 hag hn hR hS (hL.st1 (ok_hd hst) hp hl1) (ok_tl hst)
theorem wq_lload_n {kk : Fin 4} {x : Int} (hd : dc m pc = some (.lload_n kk, 1)) (hq : pc + 1 = q) (hl : ls[(kk : Nat)]? = some (some (vJ x))) (k : WP E m X q ls (vJ x :: st) h r u) : WP E m X pc ls st h r u := by
  intro G p l e s mid args below meth c Q ad0 n0 hC hX ad H locs lsA hag hn hR hS hL hst
  subst hq
  have z := hL.2.2.2 _ _ hl
  exact lv_lload_n hC.1 hC.2.1 (mdc hC hd) rfl z.1 (k G p l e s mid args below meth c Q ad0 n0 hC hX ad H locs lsA hag hn hR hS hL (ok_cons z.2 hst))
theorem wq_lload {i : Nat} {x : Int} (hd : dc m pc = some (.lload i, 2)) (hq : pc + 2 = q) (hl : ls[i]? = some (some (vJ x))) (k : WP E m X q ls (vJ x :: st) h r u) : WP E m X pc ls st h r u := by
  intro G p l e s mid args below meth c Q ad0 n0 hC hX ad H locs lsA hag hn hR hS hL hst
  subst hq
  have z := hL.2.2.2 _ _ hl
  exact lv_lload hC.1 hC.2.1 (mdc hC hd) z.1 (k G p l e s mid args below meth c Q ad0 n0 hC hX ad H locs lsA hag hn hR hS hL (ok_cons z.2 hst))
theorem wq_lstore_n {kk : Fin 4} {x : Int} (hd : dc m pc = some (.lstore_n kk, 1)) (hq : pc + 1 = q) (hi : (kk : Nat) + 1 < m.2.2.1) (hp : pvOK ls (kk : Nat) = true) (k : WP E m X q ((ls.set (kk : Nat) (some (vJ x))).set ((kk : Nat) + 1) none) st h r u) : WP E m X pc ls (vJ x :: st) h r u := by
  intro G p l e s mid args below meth c Q ad0 n0 hC hX ad H locs lsA hag hn hR hS hL hst
  subst hq
  refine lv_lstore_n hC.1 hC.2.1 (mdc hC hd) rfl hL.has hi rfl (fun ls1 hl1 => ?_)
  exact k G p l e s mid args below meth c Q ad0 n0 hC hX ad H locs ls1 hag hn hR hS (hL.st2 (ok_hd hst) hp hl1) (ok_tl hst)
theorem wq_lstore {i : Nat} {x : Int} (hd : dc m pc = some (.lstore i, 2)) (hq : pc + 2 = q) (hi : i + 1 < m.2.2.1) (hp : pvOK ls i = true) (k : WP E m X q ((ls.set i (some (vJ x))).set (i + 1) none) st h r u) : WP E m X pc ls (vJ x :: st) h r u := by
  intro G p l e s mid args below meth c Q ad0 n0 hC hX ad H locs lsA hag hn hR hS hL hst
  subst hq
  refine lv_lstore hC.1 hC.2.1 (mdc hC hd) hL.has hi rfl (fun ls1 hl1 => ?_)
  exact k G p l e s mid args below meth c Q ad0 n0 hC hX ad H locs ls1 hag hn hR hS (hL.st2 (ok_hd hst) hp hl1) (ok_tl hst)
theorem wq_aload_n {kk : Fin 4} {x : Nat} (hd : dc m pc = some (.aload_n kk, 1)) (hq : pc + 1 = q) (hl : ls[(kk : Nat)]? = some (some (vR x))) (k : WP E m X q ls (vR x :: st) h r u) : WP E m X pc ls st h r u := by
  intro G p l e s mid args below meth c Q ad0 n0 hC hX ad H locs lsA hag hn hR hS hL hst
  subst hq
  have z := hL.2.2.2 _ _ hl
  exact lv_aload_n hC.1 hC.2.1 (mdc hC hd) rfl z.1 (k G p l e s mid args below meth c Q ad0 n0 hC hX ad H locs lsA hag hn hR hS hL (ok_cons z.2 hst))
theorem wq_aload {i : Nat} {x : Nat} (hd : dc m pc = some (.aload i, 2)) (hq : pc + 2 = q) (hl : ls[i]? = some (some (vR x))) (k : WP E m X q ls (vR x :: st) h r u) : WP E m X pc ls st h r u := by
  intro G p l e s mid args below meth c Q ad0 n0 hC hX ad H locs lsA hag hn hR hS hL hst
  subst hq
  have z := hL.2.2.2 _ _ hl
  exact lv_aload hC.1 hC.2.1 (mdc hC hd) z.1 (k G p l e s mid args below meth c Q ad0 n0 hC hX ad H locs lsA hag hn hR hS hL (ok_cons z.2 hst))
theorem wq_astore_n {kk : Fin 4} {x : Nat} (hd : dc m pc = some (.astore_n kk, 1)) (hq : pc + 1 = q) (hi : (kk : Nat) < m.2.2.1) (hp : pvOK ls (kk : Nat) = true) (k : WP E m X q (ls.set (kk : Nat) (some (vR x))) st h r u) : WP E m X pc ls (vR x :: st) h r u := by
  intro G p l e s mid args below meth c Q ad0 n0 hC hX ad H locs lsA hag hn hR hS hL hst
  subst hq
  refine lv_astore_n hC.1 hC.2.1 (mdc hC hd) rfl hL.has hi rfl (fun ls1 hl1 => ?_)
  exact k G p l e s mid args below meth c Q ad0 n0 hC hX ad H locs ls1 hag hn hR hS (hL.st1 (ok_hd hst) hp hl1) (ok_tl hst)
theorem wq_astore {i : Nat} {x : Nat} (hd : dc m pc = some (.astore i, 2)) (hq : pc + 2 = q) (hi : i < m.2.2.1) (hp : pvOK ls i = true) (k : WP E m X q (ls.set i (some (vR x))) st h r u) : WP E m X pc ls (vR x :: st) h r u := by
  intro G p l e s mid args below meth c Q ad0 n0 hC hX ad H locs lsA hag hn hR hS hL hst
  subst hq
  refine lv_astore hC.1 hC.2.1 (mdc hC hd) hL.has hi rfl (fun ls1 hl1 => ?_)
  exact k G p l e s mid args below meth c Q ad0 n0 hC hX ad H locs ls1 hag hn hR hS (hL.st1 (ok_hd hst) hp hl1) (ok_tl hst)
theorem wq_iinc {i : Nat} {n x : Int} (hd : dc m pc = some (.iinc i n, 3)) (hq : pc + 3 = q) (hl : ls[i]? = some (some (vI x))) (hi : i < m.2.2.1) (hp : pvOK ls i = true) (h1 : -2147483648 ≤ x + n) (h2 : x + n ≤ 2147483647) (k : WP E m X q (ls.set i (some (vI (x + n)))) st h r u) : WP E m X pc ls st h r u := by
  intro G p l e s mid args below meth c Q ad0 n0 hC hX ad H locs lsA hag hn hR hS hL hst
  subst hq
  have z := hL.2.2.2 _ _ hl
  have hm := lvl_of (ad := ad) hl
  obtain ⟨kk, hk⟩ := List.getElem?_of_mem hm
  have he : Int32.ofInt x + Int32.ofInt n = Int32.ofInt (x + n) := (Int32.ofInt_add x n).symm
  refine lv_iinc hC.1 hC.2.1 (mdc hC hd) hL.has hk he hi rfl (fun ls1 hl1 => ?_)
  exact k G p l e s mid args below meth c Q ad0 n0 hC hX ad H locs ls1 hag hn hR hS (hL.st1 (v := vI (x + n)) ⟨h1, h2⟩ hp hl1) hst
theorem wq_iadd {x y : Int} (hd : dc m pc = some (.iadd, 1)) (hq : pc + 1 = q) (h1 : -2147483648 ≤ x + y) (h2 : x + y ≤ 2147483647) (k : WP E m X q ls (vI (x + y) :: st) h r u) : WP E m X pc ls (vI y :: vI x :: st) h r u := by
  intro G p l e s mid args below meth c Q ad0 n0 hC hX ad H locs lsA hag hn hR hS hL hst
  subst hq
  refine lv_iadd hC.1 hC.2.1 (mdc hC hd) ?_
  rw [← Int32.ofInt_add]
  exact k G p l e s mid args below meth c Q ad0 n0 hC hX ad H locs lsA hag hn hR hS hL (ok_cons (v := vI (x + y)) ⟨h1, h2⟩ (ok_tl (ok_tl hst)))
theorem wq_iaddw {x y : Int} (hd : dc m pc = some (.iadd, 1)) (hq : pc + 1 = q) (k : WP E m X q ls (vI (wr (x + y)) :: st) h r u) : WP E m X pc ls (vI y :: vI x :: st) h r u := by
  intro G p l e s mid args below meth c Q ad0 n0 hC hX ad H locs lsA hag hn hR hS hL hst
  subst hq
  refine lv_iadd hC.1 hC.2.1 (mdc hC hd) ?_
  rw [← Int32.ofInt_add, ← wr_of]
  exact k G p l e s mid args below meth c Q ad0 n0 hC hX ad H locs lsA hag hn hR hS hL (ok_cons (v := vI (wr (x + y))) (wr_ok _) (ok_tl (ok_tl hst)))
theorem wq_isub {x y : Int} (hd : dc m pc = some (.isub, 1)) (hq : pc + 1 = q) (h1 : -2147483648 ≤ x - y) (h2 : x - y ≤ 2147483647) (k : WP E m X q ls (vI (x - y) :: st) h r u) : WP E m X pc ls (vI y :: vI x :: st) h r u := by
  intro G p l e s mid args below meth c Q ad0 n0 hC hX ad H locs lsA hag hn hR hS hL hst
  subst hq
  refine lv_isub hC.1 hC.2.1 (mdc hC hd) ?_
  rw [← Int32.ofInt_sub]
  exact k G p l e s mid args below meth c Q ad0 n0 hC hX ad H locs lsA hag hn hR hS hL (ok_cons (v := vI (x - y)) ⟨h1, h2⟩ (ok_tl (ok_tl hst)))
theorem wq_isubw {x y : Int} (hd : dc m pc = some (.isub, 1)) (hq : pc + 1 = q) (k : WP E m X q ls (vI (wr (x - y)) :: st) h r u) : WP E m X pc ls (vI y :: vI x :: st) h r u := by
  intro G p l e s mid args below meth c Q ad0 n0 hC hX ad H locs lsA hag hn hR hS hL hst
  subst hq
  refine lv_isub hC.1 hC.2.1 (mdc hC hd) ?_
  rw [← Int32.ofInt_sub, ← wr_of]
  exact k G p l e s mid args below meth c Q ad0 n0 hC hX ad H locs lsA hag hn hR hS hL (ok_cons (v := vI (wr (x - y))) (wr_ok _) (ok_tl (ok_tl hst)))
theorem wq_imul {x y : Int} (hd : dc m pc = some (.imul, 1)) (hq : pc + 1 = q) (h1 : -2147483648 ≤ x * y) (h2 : x * y ≤ 2147483647) (k : WP E m X q ls (vI (x * y) :: st) h r u) : WP E m X pc ls (vI y :: vI x :: st) h r u := by
  intro G p l e s mid args below meth c Q ad0 n0 hC hX ad H locs lsA hag hn hR hS hL hst
  subst hq
  refine lv_imul hC.1 hC.2.1 (mdc hC hd) ?_
  rw [← Int32.ofInt_mul]
  exact k G p l e s mid args below meth c Q ad0 n0 hC hX ad H locs lsA hag hn hR hS hL (ok_cons (v := vI (x * y)) ⟨h1, h2⟩ (ok_tl (ok_tl hst)))
theorem wq_imulw {x y : Int} (hd : dc m pc = some (.imul, 1)) (hq : pc + 1 = q) (k : WP E m X q ls (vI (wr (x * y)) :: st) h r u) : WP E m X pc ls (vI y :: vI x :: st) h r u := by
  intro G p l e s mid args below meth c Q ad0 n0 hC hX ad H locs lsA hag hn hR hS hL hst
  subst hq
  refine lv_imul hC.1 hC.2.1 (mdc hC hd) ?_
  rw [← Int32.ofInt_mul, ← wr_of]
  exact k G p l e s mid args below meth c Q ad0 n0 hC hX ad H locs lsA hag hn hR hS hL (ok_cons (v := vI (wr (x * y))) (wr_ok _) (ok_tl (ok_tl hst)))
theorem wq_iand {x y : Int} (hd : dc m pc = some (.iand, 1)) (hq : pc + 1 = q) (k : WP E m X q ls (vI (Int32.ofInt x &&& Int32.ofInt y).toInt :: st) h r u) : WP E m X pc ls (vI y :: vI x :: st) h r u := by
  intro G p l e s mid args below meth c Q ad0 n0 hC hX ad H locs lsA hag hn hR hS hL hst
  subst hq
  refine lv_iand hC.1 hC.2.1 (mdc hC hd) ?_
  have kk := k G p l e s mid args below meth c Q ad0 n0 hC hX ad H locs lsA hag hn hR hS hL (ok_cons (v := vI (Int32.ofInt x &&& Int32.ofInt y).toInt) (oi_of _) (ok_tl (ok_tl hst)))
  simp only [List.map_cons, toV, oi_rt] at kk
  exact kk
theorem wq_ior {x y : Int} (hd : dc m pc = some (.ior, 1)) (hq : pc + 1 = q) (k : WP E m X q ls (vI (Int32.ofInt x ||| Int32.ofInt y).toInt :: st) h r u) : WP E m X pc ls (vI y :: vI x :: st) h r u := by
  intro G p l e s mid args below meth c Q ad0 n0 hC hX ad H locs lsA hag hn hR hS hL hst
  subst hq
  refine lv_ior hC.1 hC.2.1 (mdc hC hd) ?_
  have kk := k G p l e s mid args below meth c Q ad0 n0 hC hX ad H locs lsA hag hn hR hS hL (ok_cons (v := vI (Int32.ofInt x ||| Int32.ofInt y).toInt) (oi_of _) (ok_tl (ok_tl hst)))
  simp only [List.map_cons, toV, oi_rt] at kk
  exact kk
theorem wq_ishl {x y : Int} (hd : dc m pc = some (.ishl, 1)) (hq : pc + 1 = q) (k : WP E m X q ls (vI (Int32.ofInt x <<< (Int32.ofInt y &&& 31)).toInt :: st) h r u) : WP E m X pc ls (vI y :: vI x :: st) h r u := by
  intro G p l e s mid args below meth c Q ad0 n0 hC hX ad H locs lsA hag hn hR hS hL hst
  subst hq
  refine lv_ishl hC.1 hC.2.1 (mdc hC hd) ?_
  have kk := k G p l e s mid args below meth c Q ad0 n0 hC hX ad H locs lsA hag hn hR hS hL (ok_cons (v := vI (Int32.ofInt x <<< (Int32.ofInt y &&& 31)).toInt) (oi_of _) (ok_tl (ok_tl hst)))
  simp only [List.map_cons, toV, oi_rt] at kk
  exact kk
theorem wq_ishr {x y : Int} (hd : dc m pc = some (.ishr, 1)) (hq : pc + 1 = q) (k : WP E m X q ls (vI (Int32.ofInt x >>> (Int32.ofInt y &&& 31)).toInt :: st) h r u) : WP E m X pc ls (vI y :: vI x :: st) h r u := by
  intro G p l e s mid args below meth c Q ad0 n0 hC hX ad H locs lsA hag hn hR hS hL hst
  subst hq
  refine lv_ishr hC.1 hC.2.1 (mdc hC hd) ?_
  have kk := k G p l e s mid args below meth c Q ad0 n0 hC hX ad H locs lsA hag hn hR hS hL (ok_cons (v := vI (Int32.ofInt x >>> (Int32.ofInt y &&& 31)).toInt) (oi_of _) (ok_tl (ok_tl hst)))
  simp only [List.map_cons, toV, oi_rt] at kk
  exact kk
theorem wq_idiv {x y : Int} (hd : dc m pc = some (.idiv, 1)) (hq : pc + 1 = q) (hy : ¬ y = 0) (k : WP E m X q ls (vI (Int32.ofInt x / Int32.ofInt y).toInt :: st) h r u) : WP E m X pc ls (vI y :: vI x :: st) h r u := by
  intro G p l e s mid args below meth c Q ad0 n0 hC hX ad H locs lsA hag hn hR hS hL hst
  subst hq
  refine lv_idiv hC.1 hC.2.1 (mdc hC hd) (fun z => hy ((oi_eq (ok_hd hst) oi_0).mp (z.trans oi_zero))) ?_
  have kk := k G p l e s mid args below meth c Q ad0 n0 hC hX ad H locs lsA hag hn hR hS hL (ok_cons (v := vI (Int32.ofInt x / Int32.ofInt y).toInt) (oi_of _) (ok_tl (ok_tl hst)))
  simp only [List.map_cons, toV, oi_rt] at kk
  exact kk
theorem wq_i2b {x : Int} (hd : dc m pc = some (.i2b, 1)) (hq : pc + 1 = q) (k : WP E m X q ls (vI ((Int32.ofInt x).toInt8.toInt32).toInt :: st) h r u) : WP E m X pc ls (vI x :: st) h r u := by
  intro G p l e s mid args below meth c Q ad0 n0 hC hX ad H locs lsA hag hn hR hS hL hst
  subst hq
  refine lv_i2b hC.1 hC.2.1 (mdc hC hd) rfl ?_
  have kk := k G p l e s mid args below meth c Q ad0 n0 hC hX ad H locs lsA hag hn hR hS hL (ok_cons (v := vI ((Int32.ofInt x).toInt8.toInt32).toInt) (oi_of _) (ok_tl hst))
  simp only [List.map_cons, toV, oi_rt] at kk
  exact kk
theorem wq_i2l {x : Int} (hd : dc m pc = some (.i2l, 1)) (hq : pc + 1 = q) (k : WP E m X q ls (vJ x :: st) h r u) : WP E m X pc ls (vI x :: st) h r u := by
  intro G p l e s mid args below meth c Q ad0 n0 hC hX ad H locs lsA hag hn hR hS hL hst
  subst hq
  have hx : okI x := ok_hd hst
  have hj : okJ x := by unfold okI at hx; unfold okJ; omega
  refine lv_i2l hC.1 hC.2.1 (mdc hC hd) (v := Int64.ofInt x) (by rw [← Int64.toInt_inj, Int32.toInt_toInt64, oi_toInt hx, oj_toInt hj]) ?_
  exact k G p l e s mid args below meth c Q ad0 n0 hC hX ad H locs lsA hag hn hR hS hL (ok_cons (v := vJ x) hj (ok_tl hst))
theorem wq_ladd {x y : Int} (hd : dc m pc = some (.ladd, 1)) (hq : pc + 1 = q) (h1 : -9223372036854775808 ≤ x + y) (h2 : x + y ≤ 9223372036854775807) (k : WP E m X q ls (vJ (x + y) :: st) h r u) : WP E m X pc ls (vJ y :: vJ x :: st) h r u := by
  intro G p l e s mid args below meth c Q ad0 n0 hC hX ad H locs lsA hag hn hR hS hL hst
  subst hq
  refine lv_ladd hC.1 hC.2.1 (mdc hC hd) ?_
  rw [← Int64.ofInt_add]
  exact k G p l e s mid args below meth c Q ad0 n0 hC hX ad H locs lsA hag hn hR hS hL (ok_cons (v := vJ (x + y)) ⟨h1, h2⟩ (ok_tl (ok_tl hst)))
theorem wq_lsub {x y : Int} (hd : dc m pc = some (.lsub, 1)) (hq : pc + 1 = q) (h1 : -9223372036854775808 ≤ x - y) (h2 : x - y ≤ 9223372036854775807) (k : WP E m X q ls (vJ (x - y) :: st) h r u) : WP E m X pc ls (vJ y :: vJ x :: st) h r u := by
  intro G p l e s mid args below meth c Q ad0 n0 hC hX ad H locs lsA hag hn hR hS hL hst
  subst hq
  refine lv_lsub hC.1 hC.2.1 (mdc hC hd) ?_
  rw [← Int64.ofInt_sub]
  exact k G p l e s mid args below meth c Q ad0 n0 hC hX ad H locs lsA hag hn hR hS hL (ok_cons (v := vJ (x - y)) ⟨h1, h2⟩ (ok_tl (ok_tl hst)))
theorem wq_lmul {x y : Int} (hd : dc m pc = some (.lmul, 1)) (hq : pc + 1 = q) (h1 : -9223372036854775808 ≤ x * y) (h2 : x * y ≤ 9223372036854775807) (k : WP E m X q ls (vJ (x * y) :: st) h r u) : WP E m X pc ls (vJ y :: vJ x :: st) h r u := by
  intro G p l e s mid args below meth c Q ad0 n0 hC hX ad H locs lsA hag hn hR hS hL hst
  subst hq
  refine lv_lmul hC.1 hC.2.1 (mdc hC hd) ?_
  rw [← Int64.ofInt_mul]
  exact k G p l e s mid args below meth c Q ad0 n0 hC hX ad H locs lsA hag hn hR hS hL (ok_cons (v := vJ (x * y)) ⟨h1, h2⟩ (ok_tl (ok_tl hst)))
theorem wq_lcmp {x y : Int} (hd : dc m pc = some (.lcmp, 1)) (hq : pc + 1 = q) (k : WP E m X q ls (vI (if y < x then 1 else if x = y then 0 else -1) :: st) h r u) : WP E m X pc ls (vJ y :: vJ x :: st) h r u := by
  intro G p l e s mid args below meth c Q ad0 n0 hC hX ad H locs lsA hag hn hR hS hL hst
  subst hq
  have hy : okJ y := ok_hd hst
  have hx : okJ x := ok_hd (ok_tl hst)
  refine W.lcmp hC.1 hC.2.1 (mdc hC hd) ?_
  have he : lg_cmp (Int64.ofInt x) (Int64.ofInt y) = Int32.ofInt (if y < x then 1 else if x = y then 0 else -1) := by
    unfold lg_cmp
    simp only [gt_iff_lt, Int64.lt_iff_toInt_lt, ← Int64.toInt_inj, oj_toInt hx, oj_toInt hy]
    split
    · rfl
    · split <;> rfl
  rw [he]
  exact k G p l e s mid args below meth c Q ad0 n0 hC hX ad H locs lsA hag hn hR hS hL (ok_cons (v := vI (if y < x then 1 else if x = y then 0 else -1)) (by show okI _; unfold okI; split; omega; split <;> omega) (ok_tl (ok_tl hst)))
theorem wq_dup {v : mV} (hd : dc m pc = some (.dup, 1)) (hq : pc + 1 = q) (hv : (match v with | .inr (.inl _) => false | _ => true) = true) (k : WP E m X q ls (v :: v :: st) h r u) : WP E m X pc ls (v :: st) h r u := by
  intro G p l e s mid args below meth c Q ad0 n0 hC hX ad H locs lsA hag hn hR hS hL hst
  subst hq
  refine lv_dup hC.1 hC.2.1 (mdc hC hd) (by rw [cat_toV]; rcases v with x | x | x <;> first | rfl | simp at hv) ?_
  exact k G p l e s mid args below meth c Q ad0 n0 hC hX ad H locs lsA hag hn hR hS hL (ok_cons (ok_hd hst) hst)
theorem wq_pop {v : mV} (hd : dc m pc = some (.pop, 1)) (hq : pc + 1 = q) (hv : (match v with | .inr (.inl _) => false | _ => true) = true) (k : WP E m X q ls st h r u) : WP E m X pc ls (v :: st) h r u := by
  intro G p l e s mid args below meth c Q ad0 n0 hC hX ad H locs lsA hag hn hR hS hL hst
  subst hq
  refine lv_pop hC.1 hC.2.1 (mdc hC hd) (by rw [cat_toV]; rcases v with x | x | x <;> first | rfl | simp at hv) ?_
  exact k G p l e s mid args below meth c Q ad0 n0 hC hX ad H locs lsA hag hn hR hS hL (ok_tl hst)
theorem wq_dup2 {v w : mV} (hd : dc m pc = some (.dup2, 1)) (hq : pc + 1 = q) (hv : (match v with | .inr (.inl _) => false | _ => true) = true) (hw : (match w with | .inr (.inl _) => false | _ => true) = true) (k : WP E m X q ls (v :: w :: v :: w :: st) h r u) : WP E m X pc ls (v :: w :: st) h r u := by
  intro G p l e s mid args below meth c Q ad0 n0 hC hX ad H locs lsA hag hn hR hS hL hst
  subst hq
  refine lv_dup2_11 hC.1 hC.2.1 (mdc hC hd) (by rw [cat_toV]; rcases v with x | x | x <;> first | rfl | simp at hv) (by rw [cat_toV]; rcases w with x | x | x <;> first | rfl | simp at hw) ?_
  exact k G p l e s mid args below meth c Q ad0 n0 hC hX ad H locs lsA hag hn hR hS hL (ok_cons (ok_hd hst) (ok_cons (ok_hd (ok_tl hst)) hst))
theorem wq_icmp_eq {x y : Int} {off : Int} {tgt : Nat} (hd : dc m pc = some (.if_icmp .eq off, 3)) (hq : pc + 3 = q) (ht : (pc : Int) + off = (tgt : Int)) (kt : x = y → WP E m X tgt ls st h r u) (kf : ¬ x = y → WP E m X q ls st h r u) : WP E m X pc ls (vI y :: vI x :: st) h r u := by
  intro G p l e s mid args below meth c Q ad0 n0 hC hX ad H locs lsA hag hn hR hS hL hst
  subst hq
  have hy : okI y := ok_hd hst
  have hx : okI x := ok_hd (ok_tl hst)
  exact lv_icmp_eq hC.1 hC.2.1 (mdc hC hd) ht (fun z => kt ((oi_eq hx hy).mp z) G p l e s mid args below meth c Q ad0 n0 hC hX ad H locs lsA hag hn hR hS hL (ok_tl (ok_tl hst))) (fun z => kf (fun w => z ((oi_eq hx hy).mpr w)) G p l e s mid args below meth c Q ad0 n0 hC hX ad H locs lsA hag hn hR hS hL (ok_tl (ok_tl hst)))
theorem wq_if_eq {x : Int} {off : Int} {tgt : Nat} (hd : dc m pc = some (.ifCond .eq off, 3)) (hq : pc + 3 = q) (ht : (pc : Int) + off = (tgt : Int)) (kt : x = 0 → WP E m X tgt ls st h r u) (kf : ¬ x = 0 → WP E m X q ls st h r u) : WP E m X pc ls (vI x :: st) h r u := by
  intro G p l e s mid args below meth c Q ad0 n0 hC hX ad H locs lsA hag hn hR hS hL hst
  subst hq
  have hx : okI x := ok_hd hst
  refine lv_if_eq hC.1 hC.2.1 (mdc hC hd) ht (fun z => ?_) (fun z => ?_)
  · rw [oi_zero] at z
    exact kt ((oi_eq hx oi_0).mp (z)) G p l e s mid args below meth c Q ad0 n0 hC hX ad H locs lsA hag hn hR hS hL (ok_tl hst)
  · rw [oi_zero] at z
    exact kf (fun w => z ((oi_eq hx oi_0).mpr w)) G p l e s mid args below meth c Q ad0 n0 hC hX ad H locs lsA hag hn hR hS hL (ok_tl hst)
theorem wq_icmp_ne {x y : Int} {off : Int} {tgt : Nat} (hd : dc m pc = some (.if_icmp .ne off, 3)) (hq : pc + 3 = q) (ht : (pc : Int) + off = (tgt : Int)) (kt : ¬ x = y → WP E m X tgt ls st h r u) (kf : x = y → WP E m X q ls st h r u) : WP E m X pc ls (vI y :: vI x :: st) h r u := by
  intro G p l e s mid args below meth c Q ad0 n0 hC hX ad H locs lsA hag hn hR hS hL hst
  subst hq
  have hy : okI y := ok_hd hst
  have hx : okI x := ok_hd (ok_tl hst)
  exact lv_icmp_ne hC.1 hC.2.1 (mdc hC hd) ht (fun z => kt (fun w => z ((oi_eq hx hy).mpr w)) G p l e s mid args below meth c Q ad0 n0 hC hX ad H locs lsA hag hn hR hS hL (ok_tl (ok_tl hst))) (fun z => kf ((oi_eq hx hy).mp z) G p l e s mid args below meth c Q ad0 n0 hC hX ad H locs lsA hag hn hR hS hL (ok_tl (ok_tl hst)))
theorem wq_if_ne {x : Int} {off : Int} {tgt : Nat} (hd : dc m pc = some (.ifCond .ne off, 3)) (hq : pc + 3 = q) (ht : (pc : Int) + off = (tgt : Int)) (kt : ¬ x = 0 → WP E m X tgt ls st h r u) (kf : x = 0 → WP E m X q ls st h r u) : WP E m X pc ls (vI x :: st) h r u := by
  intro G p l e s mid args below meth c Q ad0 n0 hC hX ad H locs lsA hag hn hR hS hL hst
  subst hq
  have hx : okI x := ok_hd hst
  refine lv_if_ne hC.1 hC.2.1 (mdc hC hd) ht (fun z => ?_) (fun z => ?_)
  · rw [oi_zero] at z
    exact kt (fun w => z ((oi_eq hx oi_0).mpr w)) G p l e s mid args below meth c Q ad0 n0 hC hX ad H locs lsA hag hn hR hS hL (ok_tl hst)
  · rw [oi_zero] at z
    exact kf ((oi_eq hx oi_0).mp (z)) G p l e s mid args below meth c Q ad0 n0 hC hX ad H locs lsA hag hn hR hS hL (ok_tl hst)
theorem wq_icmp_lt {x y : Int} {off : Int} {tgt : Nat} (hd : dc m pc = some (.if_icmp .lt off, 3)) (hq : pc + 3 = q) (ht : (pc : Int) + off = (tgt : Int)) (kt : x < y → WP E m X tgt ls st h r u) (kf : ¬ x < y → WP E m X q ls st h r u) : WP E m X pc ls (vI y :: vI x :: st) h r u := by
  intro G p l e s mid args below meth c Q ad0 n0 hC hX ad H locs lsA hag hn hR hS hL hst
  subst hq
  have hy : okI y := ok_hd hst
  have hx : okI x := ok_hd (ok_tl hst)
  exact lv_icmp_lt hC.1 hC.2.1 (mdc hC hd) ht (fun z => kt ((oi_lt hx hy).mp z) G p l e s mid args below meth c Q ad0 n0 hC hX ad H locs lsA hag hn hR hS hL (ok_tl (ok_tl hst))) (fun z => kf (fun w => z ((oi_lt hx hy).mpr w)) G p l e s mid args below meth c Q ad0 n0 hC hX ad H locs lsA hag hn hR hS hL (ok_tl (ok_tl hst)))
theorem wq_if_lt {x : Int} {off : Int} {tgt : Nat} (hd : dc m pc = some (.ifCond .lt off, 3)) (hq : pc + 3 = q) (ht : (pc : Int) + off = (tgt : Int)) (kt : x < 0 → WP E m X tgt ls st h r u) (kf : ¬ x < 0 → WP E m X q ls st h r u) : WP E m X pc ls (vI x :: st) h r u := by
  intro G p l e s mid args below meth c Q ad0 n0 hC hX ad H locs lsA hag hn hR hS hL hst
  subst hq
  have hx : okI x := ok_hd hst
  refine lv_if_lt hC.1 hC.2.1 (mdc hC hd) ht (fun z => ?_) (fun z => ?_)
  · rw [oi_zero] at z
    exact kt ((oi_lt hx oi_0).mp (z)) G p l e s mid args below meth c Q ad0 n0 hC hX ad H locs lsA hag hn hR hS hL (ok_tl hst)
  · rw [oi_zero] at z
    exact kf (fun w => z ((oi_lt hx oi_0).mpr w)) G p l e s mid args below meth c Q ad0 n0 hC hX ad H locs lsA hag hn hR hS hL (ok_tl hst)
theorem wq_icmp_ge {x y : Int} {off : Int} {tgt : Nat} (hd : dc m pc = some (.if_icmp .ge off, 3)) (hq : pc + 3 = q) (ht : (pc : Int) + off = (tgt : Int)) (kt : y ≤ x → WP E m X tgt ls st h r u) (kf : ¬ y ≤ x → WP E m X q ls st h r u) : WP E m X pc ls (vI y :: vI x :: st) h r u := by
  intro G p l e s mid args below meth c Q ad0 n0 hC hX ad H locs lsA hag hn hR hS hL hst
  subst hq
  have hy : okI y := ok_hd hst
  have hx : okI x := ok_hd (ok_tl hst)
  exact lv_icmp_ge hC.1 hC.2.1 (mdc hC hd) ht (fun z => kt ((oi_le hy hx).mp z) G p l e s mid args below meth c Q ad0 n0 hC hX ad H locs lsA hag hn hR hS hL (ok_tl (ok_tl hst))) (fun z => kf (fun w => z ((oi_le hy hx).mpr w)) G p l e s mid args below meth c Q ad0 n0 hC hX ad H locs lsA hag hn hR hS hL (ok_tl (ok_tl hst)))
theorem wq_if_ge {x : Int} {off : Int} {tgt : Nat} (hd : dc m pc = some (.ifCond .ge off, 3)) (hq : pc + 3 = q) (ht : (pc : Int) + off = (tgt : Int)) (kt : 0 ≤ x → WP E m X tgt ls st h r u) (kf : ¬ 0 ≤ x → WP E m X q ls st h r u) : WP E m X pc ls (vI x :: st) h r u := by
  intro G p l e s mid args below meth c Q ad0 n0 hC hX ad H locs lsA hag hn hR hS hL hst
  subst hq
  have hx : okI x := ok_hd hst
  refine lv_if_ge hC.1 hC.2.1 (mdc hC hd) ht (fun z => ?_) (fun z => ?_)
  · rw [oi_zero] at z
    exact kt ((oi_le oi_0 hx).mp (z)) G p l e s mid args below meth c Q ad0 n0 hC hX ad H locs lsA hag hn hR hS hL (ok_tl hst)
  · rw [oi_zero] at z
    exact kf (fun w => z ((oi_le oi_0 hx).mpr w)) G p l e s mid args below meth c Q ad0 n0 hC hX ad H locs lsA hag hn hR hS hL (ok_tl hst)
theorem wq_icmp_gt {x y : Int} {off : Int} {tgt : Nat} (hd : dc m pc = some (.if_icmp .gt off, 3)) (hq : pc + 3 = q) (ht : (pc : Int) + off = (tgt : Int)) (kt : y < x → WP E m X tgt ls st h r u) (kf : ¬ y < x → WP E m X q ls st h r u) : WP E m X pc ls (vI y :: vI x :: st) h r u := by
  intro G p l e s mid args below meth c Q ad0 n0 hC hX ad H locs lsA hag hn hR hS hL hst
  subst hq
  have hy : okI y := ok_hd hst
  have hx : okI x := ok_hd (ok_tl hst)
  exact lv_icmp_gt hC.1 hC.2.1 (mdc hC hd) ht (fun z => kt ((oi_lt hy hx).mp z) G p l e s mid args below meth c Q ad0 n0 hC hX ad H locs lsA hag hn hR hS hL (ok_tl (ok_tl hst))) (fun z => kf (fun w => z ((oi_lt hy hx).mpr w)) G p l e s mid args below meth c Q ad0 n0 hC hX ad H locs lsA hag hn hR hS hL (ok_tl (ok_tl hst)))
theorem wq_if_gt {x : Int} {off : Int} {tgt : Nat} (hd : dc m pc = some (.ifCond .gt off, 3)) (hq : pc + 3 = q) (ht : (pc : Int) + off = (tgt : Int)) (kt : 0 < x → WP E m X tgt ls st h r u) (kf : ¬ 0 < x → WP E m X q ls st h r u) : WP E m X pc ls (vI x :: st) h r u := by
  intro G p l e s mid args below meth c Q ad0 n0 hC hX ad H locs lsA hag hn hR hS hL hst
  subst hq
  have hx : okI x := ok_hd hst
  refine lv_if_gt hC.1 hC.2.1 (mdc hC hd) ht (fun z => ?_) (fun z => ?_)
  · rw [oi_zero] at z
    exact kt ((oi_lt oi_0 hx).mp (z)) G p l e s mid args below meth c Q ad0 n0 hC hX ad H locs lsA hag hn hR hS hL (ok_tl hst)
  · rw [oi_zero] at z
    exact kf (fun w => z ((oi_lt oi_0 hx).mpr w)) G p l e s mid args below meth c Q ad0 n0 hC hX ad H locs lsA hag hn hR hS hL (ok_tl hst)
theorem wq_icmp_le {x y : Int} {off : Int} {tgt : Nat} (hd : dc m pc = some (.if_icmp .le off, 3)) (hq : pc + 3 = q) (ht : (pc : Int) + off = (tgt : Int)) (kt : x ≤ y → WP E m X tgt ls st h r u) (kf : ¬ x ≤ y → WP E m X q ls st h r u) : WP E m X pc ls (vI y :: vI x :: st) h r u := by
  intro G p l e s mid args below meth c Q ad0 n0 hC hX ad H locs lsA hag hn hR hS hL hst
  subst hq
  have hy : okI y := ok_hd hst
  have hx : okI x := ok_hd (ok_tl hst)
  exact lv_icmp_le hC.1 hC.2.1 (mdc hC hd) ht (fun z => kt ((oi_le hx hy).mp z) G p l e s mid args below meth c Q ad0 n0 hC hX ad H locs lsA hag hn hR hS hL (ok_tl (ok_tl hst))) (fun z => kf (fun w => z ((oi_le hx hy).mpr w)) G p l e s mid args below meth c Q ad0 n0 hC hX ad H locs lsA hag hn hR hS hL (ok_tl (ok_tl hst)))
theorem wq_if_le {x : Int} {off : Int} {tgt : Nat} (hd : dc m pc = some (.ifCond .le off, 3)) (hq : pc + 3 = q) (ht : (pc : Int) + off = (tgt : Int)) (kt : x ≤ 0 → WP E m X tgt ls st h r u) (kf : ¬ x ≤ 0 → WP E m X q ls st h r u) : WP E m X pc ls (vI x :: st) h r u := by
  intro G p l e s mid args below meth c Q ad0 n0 hC hX ad H locs lsA hag hn hR hS hL hst
  subst hq
  have hx : okI x := ok_hd hst
  refine lv_if_le hC.1 hC.2.1 (mdc hC hd) ht (fun z => ?_) (fun z => ?_)
  · rw [oi_zero] at z
    exact kt ((oi_le hx oi_0).mp (z)) G p l e s mid args below meth c Q ad0 n0 hC hX ad H locs lsA hag hn hR hS hL (ok_tl hst)
  · rw [oi_zero] at z
    exact kf (fun w => z ((oi_le hx oi_0).mpr w)) G p l e s mid args below meth c Q ad0 n0 hC hX ad H locs lsA hag hn hR hS hL (ok_tl hst)
theorem wq_goto {off : Int} {tgt : Nat} (hd : dc m pc = some (.goto off, 3)) (ht : (pc : Int) + off = (tgt : Int)) (k : WP E m X tgt ls st h r u) : WP E m X pc ls st h r u := by
  intro G p l e s mid args below meth c Q ad0 n0 hC hX ad H locs lsA hag hn hR hS hL hst
  exact lv_goto hC.1 hC.2.1 (mdc hC hd) ht (k G p l e s mid args below meth c Q ad0 n0 hC hX ad H locs lsA hag hn hR hS hL hst)
theorem wq_tab {dflt lo hi : Int} {offs : Array Int} {len : Nat} {x : Int} (hd : dc m pc = some (.tableswitch dflt lo hi offs, len)) (kd : x < lo ∨ hi < x → ∃ tgt : Nat, (pc : Int) + dflt = (tgt : Int) ∧ WP E m X tgt ls st h r u) (ki : lo ≤ x → x ≤ hi → ∃ (off : Int) (tgt : Nat), offs[(x - lo).toNat]? = some off ∧ (pc : Int) + off = (tgt : Int) ∧ WP E m X tgt ls st h r u) : WP E m X pc ls (vI x :: st) h r u := by
  intro G p l e s mid args below meth c Q ad0 n0 hC hX ad H locs lsA hag hn hR hS hL hst
  have hx : okI x := ok_hd hst
  by_cases ho : x < lo ∨ hi < x
  · obtain ⟨tgt, ht, k⟩ := kd ho
    exact lv_tableOut hC.1 hC.2.1 (mdc hC hd) (by rw [oi_toInt hx]; exact ho) ht (k G p l e s mid args below meth c Q ad0 n0 hC hX ad H locs lsA hag hn hR hS hL (ok_tl hst))
  · obtain ⟨off, tgt, h1, ht, k⟩ := ki (by omega) (by omega)
    exact lv_tableIn hC.1 hC.2.1 (mdc hC hd) (by rw [oi_toInt hx]; omega) (by rw [oi_toInt hx]; omega) (by rw [oi_toInt hx]; exact h1) ht (k G p l e s mid args below meth c Q ad0 n0 hC hX ad H locs lsA hag hn hR hS hL (ok_tl hst))
end OPS

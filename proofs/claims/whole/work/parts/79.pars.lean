/-! READING, as functions: R a row (0 span, 1 spots, 2 lines, 3 links, 4 departures, 5.. changes, 15.. waits, 25.. departures of 8 each), where the names of spots and lines stand -/
abbrev pS : Type := mF × mF × mF
abbrev pX : Type := Int × Int × Int × pS
def up (R : mF) (i v : Int) : mF := fun j => if j = i then v else R j
theorem up_s {R : mF} {i v : Int} : up R i v i = v := if_pos rfl
theorem up_n {R : mF} {i v j : Int} (h : j ≠ i) : up R i v j = R j := if_neg h
def ch (st : pS) (k pl : Int) (x : pX) : pX := if k = 0 then x else (k, pl, 0, st)
theorem ch_y {st : pS} {k pl : Int} {x : pX} (h : k = 0) : ch st k pl x = x := if_pos h
theorem ch_n {st : pS} {k pl : Int} {x : pX} (h : k ≠ 0) : ch st k pl x = (k, pl, 0, st) := if_neg h
def fdS (T : mF) (n : Int) (st : pS) (p : Int) : Int := fdx (fun i => c27 T n (st.2.1 i)) (st.1 1) (c27 T n p)
def fdL (T : mF) (n : Int) (st : pS) (p : Int) : Int := fdx (fun i => c27 T n (st.2.2 i)) (st.1 2) (c27 T n p)
/-- faults: no such word; a name that is told; one that isn't -/
noncomputable abbrev xW (T : mF) (n p : Int) (j : Nat) : Int := 1 - bI (Wd T n p j)
noncomputable def xA (T : mF) (n : Int) (st : pS) (p : Int) : Int := if bI (Nm T n p) = 0 then 1 else if fdS T n st p = -1 ∧ fdL T n st p = -1 then 0 else 3
noncomputable def xU (T : mF) (n p f : Int) : Int := if bI (Nm T n p) = 0 then 1 else if f = -1 then 2 else 0
noncomputable def pSpan (T : mF) (n p : Int) (st : pS) : pX :=
  ch st (xW T n (tE T n p) 4) (tS T n (tE T n p)) (ch st (xN T n (tE T n (tE T n p)) 1 999) (tS T n (tE T n (tE T n p))) (0, 0, tE T n (tE T n (tE T n p)), up st.1 0 (c10 T n (tE T n (tE T n p))), st.2))
def sSp (T : mF) (n : Int) (st : pS) (p1 p3 w : Int) : pS := (up (up (up st.1 (5 + st.1 1) (c10 T n p3)) (15 + st.1 1) w) 1 (st.1 1 + 1), up st.2.1 (st.1 1) p1, st.2.2)
noncomputable def pSpot4 (T : mF) (n p1 p3 p4 : Int) (st : pS) : pX :=
  if bI (Wd T n p4 6) = 0 then (0, 0, p4, sSp T n st p1 p3 (-2)) else ch st (xN T n (tE T n p4) 0 999) (tS T n (tE T n p4)) (0, 0, tE T n (tE T n p4), sSp T n st p1 p3 (c10 T n (tE T n p4)))
noncomputable def pSpot1 (T : mF) (n p1 p2 p3 : Int) (st : pS) : pX :=
  ch st (xA T n st p1) (tS T n p1) (ch st (xW T n p2 5) (tS T n p2) (ch st (xN T n p3 0 99) (tS T n p3) (pSpot4 T n p1 p3 (tE T n p3) st)))
noncomputable def pSpot (T : mF) (n p : Int) (st : pS) : pX := pSpot1 T n (tE T n p) (tE T n (tE T n p)) (tE T n (tE T n (tE T n p))) st
noncomputable def pLine (T : mF) (n p : Int) (st : pS) : pX :=
  ch st (xA T n st (tE T n p)) (tS T n (tE T n p)) (0, 0, tE T n (tE T n p), up st.1 2 (st.1 2 + 1), st.2.1, up st.2.2 (st.1 2) (tE T n p))
/-- a departure more -/
def add1 (R : mF) (l a b t w k : Int) : mF := up (up (up (up (up (up (up (up (up R (25 + 8 * R 4) l) (25 + 8 * R 4 + 1) a) (25 + 8 * R 4 + 2) b) (25 + 8 * R 4 + 3) t) (25 + 8 * R 4 + 4) w) (25 + 8 * R 4 + 5) 0) (25 + 8 * R 4 + 6) 1) (25 + 8 * R 4 + 7) k) 4 (R 4 + 1)
def adds (l a b w k till ev : Int) : Nat → Int → mF → mF
  | 0, _, R => R
  | f + 1, t, R => if t ≤ till then adds l a b w k till ev f (t + ev) (add1 R l a b t w k) else R
def dv (x y : Int) : Int := (Int32.ofInt x / Int32.ofInt y).toInt
/-- of a link what stands behind its ends -/
noncomputable def pTimes2 (T : mF) (n p5 p7 p9 l a b : Int) (st : pS) : pX :=
  ch st (if st.1 4 + dv (c10 T n p7 - c10 T n p5) (c10 T n p9) + 1 ≤ 120 then 0 else 5) (tS T n p9) (ch st (xW T n (tE T n p9) 10) (tS T n (tE T n p9)) (ch st (xN T n (tE T n (tE T n p9)) 1 99) (tS T n (tE T n (tE T n p9)))
    (0, 0, tE T n (tE T n (tE T n p9)), up (adds l a b (c10 T n (tE T n (tE T n p9))) (st.1 3) (c10 T n p7) (c10 T n p9) 2000 (c10 T n p5) st.1) 3 (st.1 3 + 1), st.2)))
noncomputable def pTimes1 (T : mF) (n p4 p5 p6 p7 p8 p9 l a b : Int) (st : pS) : pX :=
  ch st (xW T n p4 7) (tS T n p4) (ch st (xN T n p5 0 (st.1 0)) (tS T n p5) (ch st (xW T n p6 8) (tS T n p6) (ch st (xN T n p7 (c10 T n p5) (st.1 0)) (tS T n p7) (ch st (xW T n p8 9) (tS T n p8) (ch st (xN T n p9 1 999) (tS T n p9) (pTimes2 T n p5 p7 p9 l a b st))))))
noncomputable def pTimes (T : mF) (n p3 l a b : Int) (st : pS) : pX :=
  pTimes1 T n (tE T n p3) (tE T n (tE T n p3)) (tE T n (tE T n (tE T n p3))) (tE T n (tE T n (tE T n (tE T n p3)))) (tE T n (tE T n (tE T n (tE T n (tE T n p3))))) (tE T n (tE T n (tE T n (tE T n (tE T n (tE T n p3)))))) l a b st
noncomputable def pLink1 (T : mF) (n p1 p2 p3 : Int) (st : pS) : pX :=
  ch st (xU T n p1 (fdL T n st p1)) (tS T n p1) (ch st (xU T n p2 (fdS T n st p2)) (tS T n p2) (ch st (xU T n p3 (fdS T n st p3)) (tS T n p3) (ch st (if fdS T n st p3 = fdS T n st p2 then 3 else 0) (tS T n p3) (pTimes T n p3 (fdL T n st p1) (fdS T n st p2) (fdS T n st p3) st))))
noncomputable def pLink (T : mF) (n p : Int) (st : pS) : pX := pLink1 T n (tE T n p) (tE T n (tE T n p)) (tE T n (tE T n (tE T n p))) st
def xR (R : mF) (c m : Int) : Int := if R 0 = 0 then 6 else if c < m then 0 else 5
noncomputable def pL (T : mF) (n p : Int) (st : pS) : pX :=
  if bI (Wd T n p 0) = 1 then (if 0 < st.1 0 then (3, tS T n p, 0, st) else pSpan T n p st)
  else if bI (Wd T n p 1) = 1 then ch st (xR st.1 (st.1 1) 10) (tS T n p) (pSpot T n p st)
  else if bI (Wd T n p 2) = 1 then ch st (xR st.1 (st.1 2) 8) (tS T n p) (pLine T n p st)
  else if bI (Wd T n p 3) = 1 then ch st (xR st.1 (st.1 3) 12) (tS T n p) (pLink T n p st)
  else (1, tS T n p, 0, st)
/-- all lines from p on: fault, place, what is told -/
noncomputable def pAll (T : mF) (n : Int) : Nat → Int → pS → Int × Int × pS
  | 0, _, st => (1, 0, st)
  | f + 1, p, st => if (pL T n p st).1 ≠ 0 then ((pL T n p st).1, (pL T n p st).2.1, st)
    else if tK T n (pL T n p st).2.2.1 = 3 then pAll T n f (tE T n (pL T n p st).2.2.1) (pL T n p st).2.2.2
    else if tK T n (pL T n p st).2.2.1 = 4 then (if 0 < (pL T n p st).2.2.2.1 1 then (0, -1, (pL T n p st).2.2.2) else (6, tS T n (pL T n p st).2.2.1, st))
    else (1, tS T n (pL T n p st).2.2.1, st)
/-- what holds of what is told so far -/
def dOK (R : mF) (d : Int) : Prop := (0 ≤ R (25 + 8 * d) ∧ R (25 + 8 * d) < R 2) ∧ (0 ≤ R (25 + 8 * d + 1) ∧ R (25 + 8 * d + 1) < R 1) ∧ (0 ≤ R (25 + 8 * d + 2) ∧ R (25 + 8 * d + 2) < R 1) ∧ R (25 + 8 * d + 1) ≠ R (25 + 8 * d + 2) ∧ (0 ≤ R (25 + 8 * d + 3) ∧ R (25 + 8 * d + 3) ≤ 999) ∧ (1 ≤ R (25 + 8 * d + 4) ∧ R (25 + 8 * d + 4) ≤ 99) ∧ (0 ≤ R (25 + 8 * d + 5) ∧ R (25 + 8 * d + 5) ≤ 99) ∧ (R (25 + 8 * d + 6) = 0 ∨ R (25 + 8 * d + 6) = 1)
def RV (R : mF) : Prop := (0 ≤ R 0 ∧ R 0 ≤ 999) ∧ (0 ≤ R 1 ∧ R 1 ≤ 10) ∧ (0 ≤ R 2 ∧ R 2 ≤ 8) ∧ (0 ≤ R 3 ∧ R 3 ≤ 12) ∧ (0 ≤ R 4 ∧ R 4 ≤ 120) ∧ (R 0 = 0 → R 1 = 0 ∧ R 2 = 0 ∧ R 3 = 0 ∧ R 4 = 0) ∧ (∀ s, 0 ≤ s → s < R 1 → (0 ≤ R (5 + s) ∧ R (5 + s) ≤ 99) ∧ (R (15 + s) = -2 ∨ 0 ≤ R (15 + s) ∧ R (15 + s) ≤ 999)) ∧ ∀ d, 0 ≤ d → d < R 4 → dOK R d
def PV (T : mF) (n : Int) (st : pS) : Prop := RV st.1 ∧ (∀ s, 0 ≤ s → s < st.1 1 → 0 ≤ st.2.1 s ∧ st.2.1 s ≤ n ∧ tK T n (st.2.1 s) = 1) ∧ ∀ s, 0 ≤ s → s < st.1 2 → 0 ≤ st.2.2 s ∧ st.2.2 s ≤ n ∧ tK T n (st.2.2 s) = 1
theorem xN_0 {T : mF} {n p lo hi : Int} (h : xN T n p lo hi = 0) : tK T n p = 2 ∧ lo ≤ c10 T n p ∧ c10 T n p ≤ hi := by
  unfold xN at h
  split at h
  · rename_i a
    split at h
    · rename_i b; exact ⟨a, b⟩
    · omega
  · omega
theorem xA_0 {T : mF} {n p : Int} {st : pS} (h : xA T n st p = 0) : Nm T n p ∧ fdS T n st p = -1 ∧ fdL T n st p = -1 := by
  unfold xA at h
  split at h
  · omega
  · rename_i a
    split at h
    · rename_i b; exact ⟨bI_ne a, b⟩
    · omega
theorem xU_0 {T : mF} {n p f : Int} (h : xU T n p f = 0) : Nm T n p ∧ f ≠ -1 := by
  unfold xU at h
  split at h
  · omega
  · rename_i a
    split at h
    · omega
    · rename_i b; exact ⟨bI_ne a, b⟩
theorem ch_0 {st : pS} {k pl : Int} {x : pX} (h : (ch st k pl x).1 = 0) : k = 0 ∧ ch st k pl x = x := by
  by_cases e : k = 0
  · exact ⟨e, ch_y e⟩
  · rw [ch_n e] at h; exact absurd h e
theorem dv_eq {x y : Int} (hx : 0 ≤ x ∧ x ≤ 2147483647) (hy : 1 ≤ y ∧ y ≤ 2147483647) : dv x y = x / y := by
  unfold dv
  rw [Int32.toInt_div, oi_toInt (by unfold okI; omega), oi_toInt (by unfold okI; omega), Int.tdiv_eq_ediv_of_nonneg hx.1]
  have h0 : 0 ≤ x / y := Int.ediv_nonneg hx.1 (by omega)
  have h1 : x / y ≤ x := Int.ediv_le_self y hx.1
  rw [Int.bmod_eq_of_le] <;> omega

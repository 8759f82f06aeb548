/-! still, with room for its throw (gE4.py) -/
def stR : Room := { frames := 6, cells := 1, slots := 6, locals := 240 }
/-- still() answers, or stands before its throw -/
def stY (i : Int) (h : mH) (r : mR) : mX := fun pc ls st h1 r1 u => rt m_Lt_still stR (fun rv h2 r2 => h2 = h ∧ r2 = r ∧ ∃ v, rv = some (vI v) ∧ Stl (dN h 0) i v 0) pc ls st h1 r1 u ∨ (pc = 57 ∧ ls.length = 4 ∧ st = [] ∧ h1 = h ∧ r1 = r ∧ u = (0, 0) ∧ ∀ v, Stl (dN h 0) i v 1)
set_option maxRecDepth 100000 in
set_option maxHeartbeats 1000000 in
theorem Lt_stillM (i : Int) (h : mH) (r : mR) (hcur : r.1 0 2 = some 2) (hn : 0 ≤ h 2 4 ∧ h 2 4 ≤ 120) (hs : 0 ≤ h 2 1 ∧ h 2 1 ≤ 10) : ∀ (M : Nat) (s c : Int), (h 2 1 - s).toNat = M → 0 ≤ s → s ≤ h 2 1 → c = cn (qt (dN h 0)) s.toNat → (∀ x, 0 ≤ x → x < s → qt (dN h 0) x = true → cn (qt (dN h 0)) x.toNat ≠ i) → WP (true, stR) m_Lt_still (stY i h r) 4 [some (vR 0), some (vI i), some (vI c), some (vI s)] [] h r (0, 0) := by
  intro M
  induction M using Nat.strongRecOn with
  | ind M ih =>
    intro s c hN s0 s1 hc hp
    have cb := cn_b (qt (dN h 0)) s.toNat
    have e1 : cn (fun d => (h 12 d == 0) && (h 6 d == s)) (h 2 4).toNat = cn (fun d => (rn (dN h 0) d == 1) && (frm (dN h 0) d == s)) (nN (dN h 0)).toNat := by
      simp only [run_b]; rfl
    have e2 : cn (fun d => (h 12 d == 0) && (h 7 d == s)) (h 2 4).toNat = cn (fun d => (rn (dN h 0) d == 1) && (dst (dN h 0) d == s)) (nN (dN h 0)).toNat := by
      simp only [run_b]; rfl
    have hq : qt (dN h 0) s = true ↔ cn (fun d => (h 12 d == 0) && (h 6 d == s)) (h 2 4).toNat = 0 ∧ cn (fun d => (h 12 d == 0) && (h 7 d == s)) (h 2 4).toNat = 0 := by
      unfold qt
      rw [e1, e2, Bool.and_eq_true, beq_iff_eq, beq_iff_eq]
    have cs : cn (qt (dN h 0)) (s + 1).toNat = cn (qt (dN h 0)) s.toNat + (if qt (dN h 0) s then 1 else 0) := cn_s s0
    refine wq_iload_n (kk := 3) (q := 5) rfl rfl rfl ?_
    refine wq_aload_n (kk := 0) (q := 6) rfl rfl rfl ?_
    refine wq_getR (q := 9) f_Lt_16 rfl rfl (Or.inl ⟨rfl, Nat.le_of_ble_eq_true rfl⟩) hcur rfl rfl ?_
    refine wq_getI (kz := 1) (q := 12) rfl f_Lt_126 rfl rfl (Or.inl ⟨rfl, Nat.le_of_ble_eq_true rfl⟩) rfl rfl ?_
    refine wq_icmp_ge (tgt := 57) (q := 15) rfl rfl rfl (fun c12 => ?_) (fun c12 => ?_)
    · skip
      refine WP.exit (Or.inr ⟨rfl, rfl, rfl, rfl, rfl, rfl, fun v => Or.inr ⟨fun x x0 x1 x2 => ?_, rfl⟩⟩)
      have x1' : x < h 2 1 := x1
      first
      | exact hp x x0 (by omega) x2
      | (have := cn_b (qt (dN h 0)) x.toNat; omega)
    · skip
      refine wq_iload_n (kk := 1) (q := 16) rfl rfl rfl ?_
      refine wq_if_lt (tgt := 57) (q := 19) rfl rfl rfl (fun c16 => ?_) (fun c16 => ?_)
      · skip
        refine WP.exit (Or.inr ⟨rfl, rfl, rfl, rfl, rfl, rfl, fun v => Or.inr ⟨fun x x0 x1 x2 => ?_, rfl⟩⟩)
        have x1' : x < h 2 1 := x1
        first
        | exact hp x x0 (by omega) x2
        | (have := cn_b (qt (dN h 0)) x.toNat; omega)
      · skip
        refine wq_aload_n (kk := 0) (q := 20) rfl rfl rfl ?_
        refine wq_getR (q := 23) f_Lt_16 rfl rfl (Or.inl ⟨rfl, Nat.le_of_ble_eq_true rfl⟩) hcur rfl rfl ?_
        refine wq_iload_n (kk := 3) (q := 24) rfl rfl rfl ?_
        refine wq_callV (q := 27) (m' := m_De_countFrom) (R' := rm 1) (As := [_]) rfl rfl l_Lt_150 vm_De_countFrom rfl rfl rfl (Or.inl ⟨rfl, Nat.le_of_ble_eq_true rfl⟩) (Nat.le_of_ble_eq_true rfl) (Nat.le_of_ble_eq_true rfl) (Nat.le_of_ble_eq_true rfl) (Nat.le_of_ble_eq_true rfl) (Nat.le_of_ble_eq_true rfl) (De_countFrom_ok s h r hn) rfl ?_
        rintro rv h r ⟨rfl, rfl, rfl⟩ -
        refine wq_if_ne (tgt := 51) (q := 30) rfl rfl rfl (fun c27 => ?_) (fun c27 => ?_)
        · skip
          refine wq_iinc (i := 3) (n := 1) (q := 54) rfl rfl rfl (Nat.le_of_ble_eq_true rfl) rfl (by first | omega | (simp [hup]; omega)) (by first | omega | (simp [hup]; omega)) ?_
          refine wq_goto (tgt := 4) rfl rfl ?_
          by_cases z : qt (dN h 0) s = true
          · rw [if_pos z] at cs
            have y := hq.1 z
            first
            | exact absurd y.1 c27
            | exact absurd y.2 c38
            | exact ih _ (by omega) (s + 1) (c + 1) rfl (by omega) (by omega) (by omega) (fun x x0 x1 x2 => by
                by_cases e : x = s
                · subst e; omega
                · exact hp x x0 (by omega) x2)
          · rw [if_neg z] at cs
            first
            | exact absurd (hq.2 ⟨c27, c38⟩) z
            | exact ih _ (by omega) (s + 1) c rfl (by omega) (by omega) (by omega) (fun x x0 x1 x2 => by
                by_cases e : x = s
                · subst e; exact absurd x2 z
                · exact hp x x0 (by omega) x2)
        · skip
          refine wq_aload_n (kk := 0) (q := 31) rfl rfl rfl ?_
          refine wq_getR (q := 34) f_Lt_16 rfl rfl (Or.inl ⟨rfl, Nat.le_of_ble_eq_true rfl⟩) hcur rfl rfl ?_
          refine wq_iload_n (kk := 3) (q := 35) rfl rfl rfl ?_
          refine wq_callV (q := 38) (m' := m_De_countTo) (R' := rm 1) (As := [_]) rfl rfl l_Lt_153 vm_De_countTo rfl rfl rfl (Or.inl ⟨rfl, Nat.le_of_ble_eq_true rfl⟩) (Nat.le_of_ble_eq_true rfl) (Nat.le_of_ble_eq_true rfl) (Nat.le_of_ble_eq_true rfl) (Nat.le_of_ble_eq_true rfl) (Nat.le_of_ble_eq_true rfl) (De_countTo_ok s h r hn) rfl ?_
          rintro rv h r ⟨rfl, rfl, rfl⟩ -
          refine wq_if_ne (tgt := 51) (q := 41) rfl rfl rfl (fun c38 => ?_) (fun c38 => ?_)
          · skip
            refine wq_iinc (i := 3) (n := 1) (q := 54) rfl rfl rfl (Nat.le_of_ble_eq_true rfl) rfl (by first | omega | (simp [hup]; omega)) (by first | omega | (simp [hup]; omega)) ?_
            refine wq_goto (tgt := 4) rfl rfl ?_
            by_cases z : qt (dN h 0) s = true
            · rw [if_pos z] at cs
              have y := hq.1 z
              first
              | exact absurd y.1 c27
              | exact absurd y.2 c38
              | exact ih _ (by omega) (s + 1) (c + 1) rfl (by omega) (by omega) (by omega) (fun x x0 x1 x2 => by
                  by_cases e : x = s
                  · subst e; omega
                  · exact hp x x0 (by omega) x2)
            · rw [if_neg z] at cs
              first
              | exact absurd (hq.2 ⟨c27, c38⟩) z
              | exact ih _ (by omega) (s + 1) c rfl (by omega) (by omega) (by omega) (fun x x0 x1 x2 => by
                  by_cases e : x = s
                  · subst e; exact absurd x2 z
                  · exact hp x x0 (by omega) x2)
          · skip
            refine wq_iload_n (kk := 2) (q := 42) rfl rfl rfl ?_
            refine wq_iload_n (kk := 1) (q := 43) rfl rfl rfl ?_
            refine wq_icmp_ne (tgt := 48) (q := 46) rfl rfl rfl (fun c43 => ?_) (fun c43 => ?_)
            · skip
              refine wq_iinc (i := 2) (n := 1) (q := 51) rfl rfl rfl (Nat.le_of_ble_eq_true rfl) rfl (by first | omega | (simp [hup]; omega)) (by first | omega | (simp [hup]; omega)) ?_
              refine wq_iinc (i := 3) (n := 1) (q := 54) rfl rfl rfl (Nat.le_of_ble_eq_true rfl) rfl (by first | omega | (simp [hup]; omega)) (by first | omega | (simp [hup]; omega)) ?_
              refine wq_goto (tgt := 4) rfl rfl ?_
              by_cases z : qt (dN h 0) s = true
              · rw [if_pos z] at cs
                have y := hq.1 z
                first
                | exact absurd y.1 c27
                | exact absurd y.2 c38
                | exact ih _ (by omega) (s + 1) (c + 1) rfl (by omega) (by omega) (by omega) (fun x x0 x1 x2 => by
                    by_cases e : x = s
                    · subst e; omega
                    · exact hp x x0 (by omega) x2)
              · rw [if_neg z] at cs
                first
                | exact absurd (hq.2 ⟨c27, c38⟩) z
                | exact ih _ (by omega) (s + 1) c rfl (by omega) (by omega) (by omega) (fun x x0 x1 x2 => by
                    by_cases e : x = s
                    · subst e; exact absurd x2 z
                    · exact hp x x0 (by omega) x2)
            · skip
              refine wq_iload_n (kk := 3) (q := 47) rfl rfl rfl ?_
              exact WP.trans (wq_iret rfl rfl (Nat.le_of_ble_eq_true rfl) (Nat.le_of_ble_eq_true rfl) ⟨rfl, rfl, s, rfl, Or.inl ⟨s, ⟨s0, by show s < h 2 1; omega⟩, hq.2 ⟨c27, c38⟩, by omega, rfl, rfl⟩⟩) (fun _ _ _ _ _ _ hx => WP.exit (Or.inl hx))
set_option maxRecDepth 100000 in
theorem Lt_stillE (i : Int) (h : mH) (r : mR) (hcur : r.1 0 2 = some 2) (hn : 0 ≤ h 2 4 ∧ h 2 4 ≤ 120) (hs : 0 ≤ h 2 1 ∧ h 2 1 ≤ 10) : WP (true, stR) m_Lt_still (stY i h r) 0 [some (vR 0), some (vI i), none, none] [] h r (0, 0) := by
  refine wq_iconst (n := 0) (q := 1) rfl rfl rfl ?_
  refine wq_istore_n (kk := 2) (q := 2) rfl rfl (Nat.le_of_ble_eq_true rfl) rfl ?_
  refine wq_iconst (n := 0) (q := 3) rfl rfl rfl ?_
  refine wq_istore_n (kk := 3) (q := 4) rfl rfl (Nat.le_of_ble_eq_true rfl) rfl ?_
  exact Lt_stillM i h r hcur hn hs _ 0 0 rfl (by omega) hs.1 rfl (fun x x0 x1 => by omega)

theorem cn_min {p : Int → Bool} {n : Int} (hn : 0 ≤ n) : ∀ {c : Nat}, cn (fun d => p d && decide (d < n)) c = cn p (min (c : Int) n).toNat
  | 0 => by
    have e : (min ((0 : Nat) : Int) n).toNat = 0 := by omega
    rw [e]; rfl
  | c + 1 => by
    show cn (fun d => p d && decide (d < n)) c + (if (p c && decide ((c : Int) < n)) = true then 1 else 0) = _
    rw [cn_min hn (c := c)]
    by_cases hc : (c : Int) < n
    · have e : (min ((c + 1 : Nat) : Int) n).toNat = (min (c : Int) n).toNat + 1 := by omega
      have e2 : (min (c : Int) n).toNat = c := by omega
      rw [e, e2, cn]
      simp [hc]
    · have e : (min ((c + 1 : Nat) : Int) n).toNat = (min (c : Int) n).toNat := by omega
      rw [e]
      simp [hc]
def kK (h h' : mH) (n k i : Int) : Prop := fr [35] h h' ∧ (0 ≤ k ∧ k ≤ i) ∧ (∀ j, i ≤ j → h' 35 j = h 35 j) ∧ (∀ j, 0 ≤ j → j < k → 0 ≤ h' 35 j ∧ h' 35 j < n) ∧ ∀ p : Int → Bool, cn (fun j => p (h' 35 j)) k.toNat = cn (fun j => p (h 35 j) && decide (h 35 j < n)) i.toNat
abbrev keepQ (h : mH) (r : mR) (n : Int) : mP := fun rv h1 r1 => rv = none ∧ r1 = r ∧ fr [31, 35] h h1 ∧ h1 31 0 = n ∧ Pm (h1 35) n
set_option maxRecDepth 100000 in
set_option maxHeartbeats 1000000 in
theorem Ne_keep2 (n : Int) (h : mH) (r : mR) (hn : 0 ≤ n ∧ n ≤ 120) (k : Int) : ∀ (M : Nat) (d : Int) (h' : mH), (n - d).toNat = M → 0 ≤ d → d ≤ n → fr [35] h h' → (∀ j, 0 ≤ j → j < d → 0 ≤ h' 35 j ∧ h' 35 j < n) → (∀ p : Int → Bool, cn (fun j => p (h' 35 j)) d.toNat = cn p d.toNat) → WP (true, rm 1) m_Ne_keepOrder (rt m_Ne_keepOrder (rm 1) (keepQ h r n)) 45 [some (vR 31), some (vI n), some (vI k), some (vI d)] [] h' r (0, 0) := by
  intro M
  induction M using Nat.strongRecOn with
  | ind M ih =>
    intro d h' hM h0 h1 hf hb hc
    refine wq_iload_n (kk := 3) (q := 46) rfl rfl rfl ?_
    refine wq_iload_n (kk := 1) (q := 47) rfl rfl rfl ?_
    refine wq_icmp_ge (tgt := 63) (q := 50) rfl rfl rfl (fun c47 => ?_) (fun c47 => ?_)
    · skip
      refine wq_aload_n (kk := 0) (q := 64) rfl rfl rfl ?_
      refine wq_iload_n (kk := 1) (q := 65) rfl rfl rfl ?_
      refine wq_putI (kz := 0) (q := 68) rfl f_Ne_60 rfl rfl rfl (Or.inl ⟨rfl, Nat.le_of_ble_eq_true rfl⟩) rfl rfl ?_
      have e : d = n := by omega
      subst e
      refine wq_vret rfl rfl (Nat.le_refl _) (Nat.le_refl _) ⟨rfl, rfl, (hf.mono (by decide)).up (by decide), hup_s, ?_⟩
      rw [hup_ne (by decide)]
      exact ⟨fun i i0 i1 => hb i i0 i1, fun p => hc p⟩
    · skip
      refine wq_aload_n (kk := 0) (q := 51) rfl rfl rfl ?_
      refine wq_getF (q := 54) f_Ne_22 rfl rfl (Nat.le_of_ble_eq_true rfl) rfl rfl rfl ?_
      refine wq_iload_n (kk := 3) (q := 55) rfl rfl rfl ?_
      refine wq_iload_n (kk := 3) (q := 56) rfl rfl rfl ?_
      refine wq_iast (q := 57) rfl (Or.inl ⟨rfl, Nat.le_of_ble_eq_true rfl⟩) rfl rfl (by first | omega | (simp [hup]; omega)) (by first | omega | (simp [hup]; omega)) ?_
      refine wq_iinc (i := 3) (n := 1) (q := 60) rfl rfl rfl (Nat.le_of_ble_eq_true rfl) rfl (by first | omega | (simp [hup]; omega)) (by first | omega | (simp [hup]; omega)) ?_
      refine wq_goto (tgt := 45) rfl rfl ?_
      refine ih _ ?_ (d + 1) _ rfl (by omega) (by omega) (hf.up (by decide)) (fun j j0 j1 => ?_) (fun p => ?_)
      · omega
      · by_cases e : j = d
        · subst e; rw [hup_s]; omega
        · rw [hup_j e]; exact hb j j0 (by omega)
      · rw [cn_s h0, cn_s h0, hup_s, ← hc p]
        congr 1
        exact cn_congr (fun j j0 j1 => by rw [hup_j (by omega)])
set_option maxRecDepth 100000 in
set_option maxHeartbeats 1000000 in
theorem Ne_keep1 (n : Int) (h : mH) (r : mR) (hn : 0 ≤ n ∧ n ≤ 120) (hc : 0 ≤ h 31 0 ∧ h 31 0 ≤ 120) (hP : Pm (h 35) (h 31 0)) : ∀ (M : Nat) (k i : Int) (h' : mH), (h 31 0 - i).toNat = M → i ≤ h 31 0 → kK h h' n k i → WP (true, rm 1) m_Ne_keepOrder (rt m_Ne_keepOrder (rm 1) (keepQ h r n)) 4 [some (vR 31), some (vI n), some (vI k), some (vI i)] [] h' r (0, 0) := by
  intro M
  induction M using Nat.strongRecOn with
  | ind M ih =>
    intro k i h' hM hi hk
    obtain ⟨f1, f2, f3, f4, f5⟩ := id hk
    have c0 : h' 31 0 = h 31 0 := f1.at 31 0 (by decide)
    have hoi := f3 i (by omega)
    refine wq_iload_n (kk := 3) (q := 5) rfl rfl rfl ?_
    refine wq_aload_n (kk := 0) (q := 6) rfl rfl rfl ?_
    refine wq_getI (kz := 0) (q := 9) rfl f_Ne_60 rfl rfl (Or.inl ⟨rfl, Nat.le_of_ble_eq_true rfl⟩) rfl rfl ?_
    refine wq_icmp_ge (tgt := 43) (q := 12) rfl rfl rfl (fun c9 => ?_) (fun c9 => ?_)
    · skip
      refine wq_iload_n (kk := 2) (q := 44) rfl rfl rfl ?_
      refine wq_istore_n (kk := 3) (q := 45) rfl rfl (Nat.le_of_ble_eq_true rfl) rfl ?_
      have e : i = h 31 0 := by omega
      subst e
      have g : ∀ p : Int → Bool, cn (fun j => p (h' 35 j)) k.toNat = cn p (min (h 31 0) n).toNat := by
        intro p
        rw [f5 p, hP.2 (fun x => p x && decide (x < n)), cn_min hn.1]
        congr 2
        omega
      have hkm : k = min (h 31 0) n := by
        have tt : ∀ m : Nat, cn (fun _ => true) m = m := by
          intro m
          induction m with
          | zero => rfl
          | succ m ihm => unfold cn; rw [ihm]; simp
        have := g (fun _ => true)
        rw [tt, tt] at this
        omega
      refine Ne_keep2 n h r hn k _ k h' rfl (by omega) (by omega) f1 (fun j j0 j1 => f4 j j0 j1) (fun p => ?_)
      rw [g p, ← hkm]
    · skip
      refine wq_aload_n (kk := 0) (q := 13) rfl rfl rfl ?_
      refine wq_getF (q := 16) f_Ne_22 rfl rfl (Nat.le_of_ble_eq_true rfl) rfl rfl rfl ?_
      refine wq_iload_n (kk := 3) (q := 17) rfl rfl rfl ?_
      refine wq_iald (q := 18) rfl (Or.inl ⟨rfl, Nat.le_of_ble_eq_true rfl⟩) rfl rfl (by first | omega | (simp [hup]; omega)) (by first | omega | (simp [hup]; omega)) ?_
      refine wq_iload_n (kk := 1) (q := 19) rfl rfl rfl ?_
      refine wq_icmp_ge (tgt := 37) (q := 22) rfl rfl rfl (fun c19 => ?_) (fun c19 => ?_)
      · skip
        refine wq_iinc (i := 3) (n := 1) (q := 40) rfl rfl rfl (Nat.le_of_ble_eq_true rfl) rfl (by first | omega | (simp [hup]; omega)) (by first | omega | (simp [hup]; omega)) ?_
        refine wq_goto (tgt := 4) rfl rfl ?_
        refine ih _ ?_ _ (i + 1) _ rfl (by omega) ?_
        · omega
        · first
            | (refine ⟨f1, by omega, fun j j1 => f3 j (by omega), f4, fun p => ?_⟩
               rw [cn_s (show 0 ≤ i by omega), ← f5 p]
               rw [hoi] at *
               rw [show decide (h 35 i < n) = false from by simp; omega]
               simp)
            | (refine ⟨f1.up (by decide), by omega, fun j j1 => ?_, fun j j0 j1 => ?_, fun p => ?_⟩
               · rw [hup_j (by omega)]; exact f3 j (by omega)
               · by_cases e : j = k
                 · subst e; rw [hup_s]
                   have := hP.1 i (by omega) (by omega)
                   omega
                 · rw [hup_j e]; exact f4 j j0 (by omega)
               · rw [cn_s f2.1, cn_s (show 0 ≤ i by omega), hup_s, ← f5 p, hoi]
                 rw [show decide (h 35 i < n) = true from by simp; omega]
                 rw [cn_congr (g := fun j => p (h' 35 j)) (fun j j0 j1 => by rw [hup_j (by omega)])]
                 simp)
      · skip
        refine wq_aload_n (kk := 0) (q := 23) rfl rfl rfl ?_
        refine wq_getF (q := 26) f_Ne_22 rfl rfl (Nat.le_of_ble_eq_true rfl) rfl rfl rfl ?_
        refine wq_iload_n (kk := 2) (q := 27) rfl rfl rfl ?_
        refine wq_aload_n (kk := 0) (q := 28) rfl rfl rfl ?_
        refine wq_getF (q := 31) f_Ne_22 rfl rfl (Nat.le_of_ble_eq_true rfl) rfl rfl rfl ?_
        refine wq_iload_n (kk := 3) (q := 32) rfl rfl rfl ?_
        refine wq_iald (q := 33) rfl (Or.inl ⟨rfl, Nat.le_of_ble_eq_true rfl⟩) rfl rfl (by first | omega | (simp [hup]; omega)) (by first | omega | (simp [hup]; omega)) ?_
        refine wq_iast (q := 34) rfl (Or.inl ⟨rfl, Nat.le_of_ble_eq_true rfl⟩) rfl rfl (by first | omega | (simp [hup]; omega)) (by first | omega | (simp [hup]; omega)) ?_
        refine wq_iinc (i := 2) (n := 1) (q := 37) rfl rfl rfl (Nat.le_of_ble_eq_true rfl) rfl (by first | omega | (simp [hup]; omega)) (by first | omega | (simp [hup]; omega)) ?_
        refine wq_iinc (i := 3) (n := 1) (q := 40) rfl rfl rfl (Nat.le_of_ble_eq_true rfl) rfl (by first | omega | (simp [hup]; omega)) (by first | omega | (simp [hup]; omega)) ?_
        refine wq_goto (tgt := 4) rfl rfl ?_
        refine ih _ ?_ _ (i + 1) _ rfl (by omega) ?_
        · omega
        · first
            | (refine ⟨f1, by omega, fun j j1 => f3 j (by omega), f4, fun p => ?_⟩
               rw [cn_s (show 0 ≤ i by omega), ← f5 p]
               rw [hoi] at *
               rw [show decide (h 35 i < n) = false from by simp; omega]
               simp)
            | (refine ⟨f1.up (by decide), by omega, fun j j1 => ?_, fun j j0 j1 => ?_, fun p => ?_⟩
               · rw [hup_j (by omega)]; exact f3 j (by omega)
               · by_cases e : j = k
                 · subst e; rw [hup_s]
                   have := hP.1 i (by omega) (by omega)
                   omega
                 · rw [hup_j e]; exact f4 j j0 (by omega)
               · rw [cn_s f2.1, cn_s (show 0 ≤ i by omega), hup_s, ← f5 p, hoi]
                 rw [show decide (h 35 i < n) = true from by simp; omega]
                 rw [cn_congr (g := fun j => p (h' 35 j)) (fun j j0 j1 => by rw [hup_j (by omega)])]
                 simp)
set_option maxRecDepth 100000 in
theorem Ne_keepOrder_ok (n : Int) (h : mH) (r : mR) (hn : 0 ≤ n ∧ n ≤ 120) (hc : 0 ≤ h 31 0 ∧ h 31 0 ≤ 120) (hP : Pm (h 35) (h 31 0)) : Meets true (rm 1) m_Ne_keepOrder [vR 31, vI n] h r (keepQ h r n) := by
  refine ⟨ok_Ne_keepOrder, Nat.le_of_ble_eq_true rfl, ?_⟩
  refine wq_iconst (n := 0) (q := 1) rfl rfl rfl ?_
  refine wq_istore_n (kk := 2) (q := 2) rfl rfl (Nat.le_of_ble_eq_true rfl) rfl ?_
  refine wq_iconst (n := 0) (q := 3) rfl rfl rfl ?_
  refine wq_istore_n (kk := 3) (q := 4) rfl rfl (Nat.le_of_ble_eq_true rfl) rfl ?_
  exact Ne_keep1 n h r hn hc hP _ 0 0 h rfl (by omega) ⟨fr.rf, by omega, fun _ _ => rfl, fun j j0 j1 => by omega, fun p => rfl⟩
/-- the order by the rows of cell 32 -/
def ow (h : mH) (d e : Int) : Prop := h 32 d < h 32 e ∨ h 32 d = h 32 e ∧ d < e
theorem ow.trans {h : mH} {a b c : Int} (h1 : ow h a b) (h2 : ow h b c) : ow h a c := by unfold ow at *; omega
def soS (h h' : mH) (n i : Int) : Prop := fr [35] h h' ∧ Pm (h' 35) n ∧ ∀ a b, 0 ≤ a → a < b → b < i → ow h (h' 35 a) (h' 35 b)
def soV (h' : mH) (k d : Int) : mF := fun j => if j = k then d else h' 35 j
set_option maxRecDepth 100000 in
set_option maxHeartbeats 1000000 in
theorem Ne_sort2 (h : mH) (r : mR) (n i d : Int) (Q : mX) (hn : 0 ≤ n ∧ n ≤ 120) (hi : 1 ≤ i ∧ i < n) (hd : 0 ≤ d ∧ d < n) (K : ∀ h2 a b, soS h h2 n (i + 1) → WP (true, rm 2) m_Ne_sort Q 2 [some (vR 31), some (vI (i + 1)), a, b] [] h2 r (0, 0)) : ∀ (M : Nat) (k : Int) (h' : mH), k.toNat = M → 0 ≤ k → k ≤ i → fr [35] h h' → Pm (soV h' k d) n → (∀ a b, 0 ≤ a → a < b → b ≤ i → a ≠ k → b ≠ k → ow h (h' 35 a) (h' 35 b)) → (∀ b, k < b → b ≤ i → ow h d (h' 35 b)) → WP (true, rm 2) m_Ne_sort Q 19 [some (vR 31), some (vI i), some (vI d), some (vI k)] [] h' r (0, 0) := by
  intro M
  induction M using Nat.strongRecOn with
  | ind M ih =>
    intro k h' hM k0 k1 hf hP hs hg
    have fin : (∀ a, 0 ≤ a → a < k → ow h (h' 35 a) d) → soS h (hup h' 35 k d) n (i + 1) := by
      intro hlo
      refine ⟨hf.up (by decide), hP.congr (fun j _ _ => ?_), fun a b a0 ab bi => ?_⟩
      · unfold soV hup; simp
      · by_cases ea : a = k
        · subst ea
          rw [hup_s, hup_j (by omega)]
          exact hg b (by omega) (by omega)
        · by_cases eb : b = k
          · subst eb
            rw [hup_s, hup_j ea]
            exact hlo a a0 (by omega)
          · rw [hup_j ea, hup_j eb]
            exact hs a b a0 ab (by omega) ea eb
    have hk1 : 0 < k → (0 ≤ h' 35 (k - 1) ∧ h' 35 (k - 1) < n) := fun z => by
      have := hP.1 (k - 1) (by omega) (by omega)
      unfold soV at this
      rw [if_neg (by omega)] at this
      exact this
    have e32 : h' 32 = h 32 := hf 32 (by decide)
    refine wq_iload_n (kk := 3) (q := 20) rfl rfl rfl ?_
    refine wq_if_le (tgt := 59) (q := 23) rfl rfl rfl (fun c20 => ?_) (fun c20 => ?_)
    · skip
      refine wq_aload_n (kk := 0) (q := 60) rfl rfl rfl ?_
      refine wq_getF (q := 63) f_Ne_22 rfl rfl (Nat.le_of_ble_eq_true rfl) rfl rfl rfl ?_
      refine wq_iload_n (kk := 3) (q := 64) rfl rfl rfl ?_
      refine wq_iload_n (kk := 2) (q := 65) rfl rfl rfl ?_
      refine wq_iast (q := 66) rfl (Or.inl ⟨rfl, Nat.le_of_ble_eq_true rfl⟩) rfl rfl (by omega) (by omega) ?_
      refine wq_iinc (i := 1) (n := 1) (q := 69) rfl rfl rfl (Nat.le_of_ble_eq_true rfl) rfl (by omega) (by omega) ?_
      refine wq_goto (tgt := 2) rfl rfl ?_
      refine K _ _ _ (fin ?_)
      first
        | (intro a a0 ak; omega)
        | (intro a a0 ak
           have hne : h' 35 (k - 1) ≠ d := by
             have := hP.inj (i := k - 1) (j := k) (by omega) (by omega) (by omega)
             unfold soV at this
             rw [if_neg (by omega), if_pos rfl] at this
             exact this
           have hlt : ow h (h' 35 (k - 1)) d := by unfold ow; omega
           by_cases ea : a = k - 1
           · subst ea; exact hlt
           · exact (hs a (k - 1) a0 (by omega) (by omega) (by omega) (by omega)).trans hlt)
    · skip
      refine wq_aload_n (kk := 0) (q := 24) rfl rfl rfl ?_
      refine wq_aload_n (kk := 0) (q := 25) rfl rfl rfl ?_
      refine wq_getF (q := 28) f_Ne_22 rfl rfl (Nat.le_of_ble_eq_true rfl) rfl rfl rfl ?_
      refine wq_iload_n (kk := 3) (q := 29) rfl rfl rfl ?_
      refine wq_iconst (n := 1) (q := 30) rfl rfl rfl ?_
      refine wq_isub (q := 31) rfl rfl (by first | omega | (have := hk1 (by omega); omega)) (by first | omega | (have := hk1 (by omega); omega)) ?_
      refine wq_iald (q := 32) rfl (Or.inl ⟨rfl, Nat.le_of_ble_eq_true rfl⟩) rfl rfl (by first | omega | (have := hk1 (by omega); omega)) (by first | omega | (have := hk1 (by omega); omega)) ?_
      refine wq_iload_n (kk := 2) (q := 33) rfl rfl rfl ?_
      refine wq_callV (q := 36) (m' := m_Ne_isBehind) (R' := rm 1) (As := [_, _]) rfl rfl l_Ne_95 vm_Ne_isBehind rfl rfl rfl (Or.inl ⟨rfl, Nat.le_of_ble_eq_true rfl⟩) (Nat.le_of_ble_eq_true rfl) (Nat.le_of_ble_eq_true rfl) (Nat.le_refl _) (Nat.le_refl _) (Nat.le_of_ble_eq_true rfl) (Ne_isBehind_ok (h' 35 (k - 1)) d h' r (by have := hk1 (by omega); omega) (by omega)) rfl ?_
      rintro rv h' r' ⟨rfl, rfl, rfl⟩ -
      rw [e32]
      refine wq_cif_eq (tgt := 59) (q := 39) rfl rfl rfl (fun c36 => ?_) (fun c36 => ?_)
      · skip
        refine wq_aload_n (kk := 0) (q := 60) rfl rfl rfl ?_
        refine wq_getF (q := 63) f_Ne_22 rfl rfl (Nat.le_of_ble_eq_true rfl) rfl rfl rfl ?_
        refine wq_iload_n (kk := 3) (q := 64) rfl rfl rfl ?_
        refine wq_iload_n (kk := 2) (q := 65) rfl rfl rfl ?_
        refine wq_iast (q := 66) rfl (Or.inl ⟨rfl, Nat.le_of_ble_eq_true rfl⟩) rfl rfl (by omega) (by omega) ?_
        refine wq_iinc (i := 1) (n := 1) (q := 69) rfl rfl rfl (Nat.le_of_ble_eq_true rfl) rfl (by omega) (by omega) ?_
        refine wq_goto (tgt := 2) rfl rfl ?_
        refine K _ _ _ (fin ?_)
        first
          | (intro a a0 ak; omega)
          | (intro a a0 ak
             have hne : h' 35 (k - 1) ≠ d := by
               have := hP.inj (i := k - 1) (j := k) (by omega) (by omega) (by omega)
               unfold soV at this
               rw [if_neg (by omega), if_pos rfl] at this
               exact this
             have hlt : ow h (h' 35 (k - 1)) d := by unfold ow; omega
             by_cases ea : a = k - 1
             · subst ea; exact hlt
             · exact (hs a (k - 1) a0 (by omega) (by omega) (by omega) (by omega)).trans hlt)
      · skip
        refine wq_aload_n (kk := 0) (q := 40) rfl rfl rfl ?_
        refine wq_getF (q := 43) f_Ne_22 rfl rfl (Nat.le_of_ble_eq_true rfl) rfl rfl rfl ?_
        refine wq_iload_n (kk := 3) (q := 44) rfl rfl rfl ?_
        refine wq_aload_n (kk := 0) (q := 45) rfl rfl rfl ?_
        refine wq_getF (q := 48) f_Ne_22 rfl rfl (Nat.le_of_ble_eq_true rfl) rfl rfl rfl ?_
        refine wq_iload_n (kk := 3) (q := 49) rfl rfl rfl ?_
        refine wq_iconst (n := 1) (q := 50) rfl rfl rfl ?_
        refine wq_isub (q := 51) rfl rfl (by first | omega | (have := hk1 (by omega); omega)) (by first | omega | (have := hk1 (by omega); omega)) ?_
        refine wq_iald (q := 52) rfl (Or.inl ⟨rfl, Nat.le_of_ble_eq_true rfl⟩) rfl rfl (by first | omega | (have := hk1 (by omega); omega)) (by first | omega | (have := hk1 (by omega); omega)) ?_
        refine wq_iast (q := 53) rfl (Or.inl ⟨rfl, Nat.le_of_ble_eq_true rfl⟩) rfl rfl (by first | omega | (have := hk1 (by omega); omega)) (by first | omega | (have := hk1 (by omega); omega)) ?_
        refine wq_iinc (i := 3) (n := -1) (q := 56) rfl rfl rfl (Nat.le_of_ble_eq_true rfl) rfl (by first | omega | (have := hk1 (by omega); omega)) (by first | omega | (have := hk1 (by omega); omega)) ?_
        refine wq_goto (tgt := 19) rfl rfl ?_
        have ik := hk1 (by omega)
        refine ih _ ?_ (k - 1) _ rfl (by omega) (by omega) (hf.up (by decide)) (hP.swap (k := k) (by omega) (by omega) ?_ ?_ ?_) (fun a b a0 ab bi ha hb => ?_) (fun b b1 b2 => ?_)
        · omega
        · unfold soV; rw [if_neg (by omega), if_neg (by omega), hup_s]
        · unfold soV; rw [if_pos rfl, if_pos rfl]
        · intro j j1 j2
          unfold soV; rw [if_neg j2, if_neg j1, hup_j j1]
        · by_cases eb : b = k
          · subst eb
            rw [hup_s, hup_j (by omega)]
            exact hs a (b - 1) a0 (by omega) (by omega) (by omega) (by omega)
          · by_cases ea : a = k
            · subst ea
              rw [hup_s, hup_j (by omega)]
              exact hs (a - 1) b (by omega) (by omega) bi (by omega) (by omega)
            · rw [hup_j ea, hup_j eb]
              exact hs a b a0 ab bi ea eb
        · by_cases eb : b = k
          · subst eb
            rw [hup_s]
            unfold ow; omega
          · rw [hup_j eb]
            exact hg b (by omega) b2
set_option maxRecDepth 100000 in
set_option maxHeartbeats 1000000 in
theorem Ne_sort1 (h : mH) (r : mR) (n : Int) (hn : 0 ≤ n ∧ n ≤ 120) (hc : h 31 0 = n) : ∀ (M : Nat) (i : Int) (h' : mH) (a b : Option mV), (n - i).toNat = M → 1 ≤ i → soS h h' n i → WP (true, rm 2) m_Ne_sort (rt m_Ne_sort (rm 2) (fun rv h1 r1 => rv = none ∧ r1 = r ∧ soS h h1 n n)) 2 [some (vR 31), some (vI i), a, b] [] h' r (0, 0) := by
  intro M
  induction M using Nat.strongRecOn with
  | ind M ih =>
    intro i h' a b hM i1 hs
    obtain ⟨f1, f2, f3⟩ := id hs
    have c0 : h' 31 0 = n := by rw [f1.at 31 0 (by decide)]; exact hc
    have hd := f2.1 i (by omega)
    refine wq_iload_n (kk := 1) (q := 3) rfl rfl rfl ?_
    refine wq_aload_n (kk := 0) (q := 4) rfl rfl rfl ?_
    refine wq_getI (kz := 0) (q := 7) rfl f_Ne_60 rfl rfl (Or.inl ⟨rfl, Nat.le_of_ble_eq_true rfl⟩) rfl rfl ?_
    refine wq_icmp_ge (tgt := 72) (q := 10) rfl rfl rfl (fun c7 => ?_) (fun c7 => ?_)
    · skip
      exact wq_vret rfl rfl (Nat.le_refl _) (Nat.le_refl _) ⟨rfl, rfl, f1, f2, fun a b a0 ab bn => f3 a b a0 ab (by omega)⟩
    · skip
      refine wq_aload_n (kk := 0) (q := 11) rfl rfl rfl ?_
      refine wq_getF (q := 14) f_Ne_22 rfl rfl (Nat.le_of_ble_eq_true rfl) rfl rfl rfl ?_
      refine wq_iload_n (kk := 1) (q := 15) rfl rfl rfl ?_
      refine wq_iald (q := 16) rfl (Or.inl ⟨rfl, Nat.le_of_ble_eq_true rfl⟩) rfl rfl (by first | omega | (simp [hup]; omega)) (by first | omega | (simp [hup]; omega)) ?_
      refine wq_istore_n (kk := 2) (q := 17) rfl rfl (Nat.le_of_ble_eq_true rfl) rfl ?_
      refine wq_iload_n (kk := 1) (q := 18) rfl rfl rfl ?_
      refine wq_istore_n (kk := 3) (q := 19) rfl rfl (Nat.le_of_ble_eq_true rfl) rfl ?_
      refine Ne_sort2 h r n i (h' 35 i) _ hn (by omega) (hd (by omega)) (fun h2 a b hs2 => ih _ ?_ (i + 1) h2 a b rfl (by omega) hs2) _ i h' rfl (by omega) (by omega) f1 (f2.congr (fun j _ _ => ?_)) (fun a b a0 ab bi ha hb => f3 a b a0 ab (by omega)) (fun b b1 b2 => by omega)
      · omega
      · unfold soV; split <;> simp_all
set_option maxRecDepth 100000 in
theorem Ne_sort_ok (h : mH) (r : mR) (n : Int) (hn : 0 ≤ n ∧ n ≤ 120) (hc : h 31 0 = n) (hP : Pm (h 35) n) : Meets true (rm 2) m_Ne_sort [vR 31] h r (fun rv h1 r1 => rv = none ∧ r1 = r ∧ soS h h1 n n) := by
  refine ⟨ok_Ne_sort, Nat.le_of_ble_eq_true rfl, ?_⟩
  refine wq_iconst (n := 1) (q := 1) rfl rfl rfl ?_
  refine wq_istore_n (kk := 1) (q := 2) rfl rfl (Nat.le_of_ble_eq_true rfl) rfl ?_
  exact Ne_sort1 h r n hn hc _ 1 h _ _ rfl (by omega) ⟨fr.rf, hP, fun a b a0 ab b1 => by omega⟩

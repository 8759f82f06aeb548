/-! LinkTimesModel: tokens -/
theorem ubv_nn (v s : Int) : 0 ≤ ubv v s := by
  unfold ubv
  generalize Int32.ofInt ((Int32.ofInt v >>> (Int32.ofInt s &&& 31)).toInt) = X
  have h1 : X &&& Int32.ofInt 255 = Int32.ofNat (X.toBitVec.toNat % 2 ^ 8) := pk_and X 8 (by decide)
  have h3 : (Int32.ofNat (X.toBitVec.toNat % 2 ^ 8)).toInt = ((X.toBitVec.toNat % 2 ^ 8 : Nat) : Int) := by
    have : X.toBitVec.toNat % 2 ^ 8 < 256 := Nat.mod_lt _ (by decide)
    rw [Int32.toInt_ofNat', Int.bmod_eq_of_le] <;> simp only [Int32.size] at * <;> omega
  rw [h1, h3]
  omega
/-- the text T as the reference has it; where it stands -/
def rdR (T : mF) (n p : Int) (h : mH) : Prop := (∀ j, 0 ≤ j → j < n → 0 ≤ h 65 j ∧ bq (T j) (h 65 j)) ∧ h 64 12 = n ∧ n ≤ 900 ∧ 0 ≤ p ∧ p ≤ n
def kR (k : Int) : Int := if k = 1 then 2 else if k = 2 then 3 else if k = 3 then 59 else if k = 4 then 0 else 1
/-- the token at p is told in cell 64 -/
def tkR (T : mF) (n p : Int) (h : mH) : Prop := h 64 13 = tS T n p ∧ h 64 15 = kR (tK T n p) ∧ (tK T n p ≠ 5 → h 64 14 = tE T n p) ∧ (tK T n p = 2 → h 64 16 = c10 T n p)
set_option maxRecDepth 100000 in
theorem Mo_see_ok (k : Int) (h : mH) (r : mR) (k0 : 0 ≤ k) (hn : h 64 12 ≤ 900) : Meets true (rm 1) m_Mo_see [vR 64, vI k] h r (pI (if k < h 64 12 then h 65 k else -1) h r) := by
  refine ⟨ok_Mo_see, Nat.le_of_ble_eq_true rfl, ?_⟩
  refine wq_iload_n (kk := 1) (q := 1) rfl rfl rfl ?_
  refine wq_aload_n (kk := 0) (q := 2) rfl rfl rfl ?_
  refine wq_getI (kz := 12) (q := 5) rfl f_Mo_91 rfl rfl (Or.inl ⟨rfl, Nat.le_of_ble_eq_true rfl⟩) rfl rfl ?_
  refine wq_icmp_ge (tgt := 17) (q := 8) rfl rfl rfl (fun c5 => ?_) (fun c5 => ?_)
  · skip
    refine wq_iconst (n := -1) (q := 18) rfl rfl rfl ?_
    refine wq_iret rfl rfl (Nat.le_refl _) (Nat.le_refl _) ?_
    refine ⟨?_, rfl, rfl⟩
    first | rw [if_pos (by omega)] | rw [if_neg (by omega)]
  · skip
    refine wq_aload_n (kk := 0) (q := 9) rfl rfl rfl ?_
    refine wq_getF (q := 12) f_Mo_13 rfl rfl (Nat.le_of_ble_eq_true rfl) rfl rfl rfl ?_
    refine wq_iload_n (kk := 1) (q := 13) rfl rfl rfl ?_
    refine wq_iald (q := 14) rfl (Or.inl ⟨rfl, Nat.le_of_ble_eq_true rfl⟩) rfl rfl (by first | omega | (simp [hup]; omega)) (by first | omega | (simp [hup]; omega)) ?_
    refine wq_goto (tgt := 18) rfl rfl ?_
    refine wq_iret rfl rfl (Nat.le_refl _) (Nat.le_refl _) ?_
    refine ⟨?_, rfl, rfl⟩
    first | rw [if_pos (by omega)] | rw [if_neg (by omega)]
/-- what see() answers -/
theorem see_v {T : mF} {n p : Int} {h : mH} {i : Int} (hS : rdR T n p h) (i0 : 0 ≤ i) : (i < n ∧ 0 ≤ (if i < h 64 12 then h 65 i else -1) ∧ bq (T i) (if i < h 64 12 then h 65 i else -1)) ∨ (n ≤ i ∧ (if i < h 64 12 then h 65 i else -1) = -1) := by
  rw [hS.2.1]
  by_cases z : i < n
  · rw [if_pos z]
    exact Or.inl ⟨z, hS.1 i i0 z⟩
  · rw [if_neg z]
    exact Or.inr ⟨by omega, rfl⟩
theorem rdR_f {T : mF} {n p : Int} {h h1 : mH} {S : List Int} {C : List Nat} (hS : rdR T n p h) (f : f64 S C h h1) (h12 : (12 : Int) ∉ S) (h65 : 65 ∉ C) : rdR T n p h1 := by
  obtain ⟨a, b, c⟩ := hS
  exact ⟨fun j j0 j1 => by rw [f.1 65 h65]; exact a j j0 j1, by rw [f.2 12 h12]; exact b, c⟩
abbrev goF : List Int := [13, 14, 15, 16]
abbrev goQ (T : mF) (n p : Int) (h : mH) (r : mR) : mP := fun rv h1 r1 => rv = none ∧ r1 = r ∧ f64 goF [64] h h1 ∧ tkR T n p h1
set_option maxRecDepth 100000 in
set_option maxHeartbeats 1000000 in
theorem Mo_goW (T : mF) (n p s : Int) (h : mH) (r : mR) (hS : rdR T n p h) (eS : tS T n p = s) (s0 : 0 ≤ s) (sn : s < n) (hl : 97 ≤ T s ∧ T s ≤ 122) (x1 : Option mV) : ∀ (M : Nat) (i : Int) (h1 : mH), (n - i).toNat = M → s ≤ i → i ≤ n → f64 goF [64] h h1 → h1 64 13 = s → h1 64 14 = i → rE (bLt T) n i = rE (bLt T) n s → WP (true, rm 2) m_Mo_goesOn (rt m_Mo_goesOn (rm 2) (goQ T n p h r)) 65 [some (vR 64), x1] [] h1 r (0, 0) := by
  intro M
  induction M using Nat.strongRecOn with
  | ind M ih =>
    intro i h1 hM i0 i1 hf e13 e14 hr
    have hS1 := rdR_f hS hf (by decide) (by decide)
    have e12 := hS1.2.1
    have hb := hS.2.2.1
    have sv := see_v hS1 (i := i) (by omega)
    obtain ⟨-, -, tw, -⟩ := tk_at eS
    have t := tw sn (by omega) hl
    refine wq_aload_n (kk := 0) (q := 66) rfl rfl rfl ?_
    refine wq_aload_n (kk := 0) (q := 67) rfl rfl rfl ?_
    refine wq_getI (kz := 14) (q := 70) rfl f_Mo_94 rfl rfl (Or.inl ⟨rfl, Nat.le_of_ble_eq_true rfl⟩) rfl rfl ?_
    refine wq_callV (q := 73) (m' := m_Mo_see) (R' := rm 1) (As := [_]) rfl rfl l_Mo_97 vm_Mo_see rfl rfl rfl (Or.inl ⟨rfl, Nat.le_of_ble_eq_true rfl⟩) (Nat.le_of_ble_eq_true rfl) (Nat.le_of_ble_eq_true rfl) (Nat.le_refl _) (Nat.le_refl _) (Nat.le_of_ble_eq_true rfl) (Mo_see_ok _ h1 r (by omega) (by omega)) rfl ?_
    rintro rv h1 r ⟨rfl, rfl, rfl⟩ -
    rw [e14]
    generalize (if i < h1 64 12 then h1 65 i else -1) = y at sv ⊢
    unfold bq at sv
    refine wq_bipush (n := 97) (q := 75) rfl rfl rfl ?_
    refine wq_bipush (n := 122) (q := 77) rfl rfl rfl ?_
    refine wq_callS (q := 80) (m' := m_Mo_in) (R' := rm 1) (As := [_, _, _]) rfl rfl l_Mo_107 sm_Mo_in rfl (Nat.le_of_ble_eq_true rfl) (Nat.le_of_ble_eq_true rfl) (Nat.le_refl _) (Nat.le_refl _) (Nat.le_of_ble_eq_true rfl) (Mo_in_ok _ _ _ h1 r) rfl ?_
    rintro rv h1 r ⟨rfl, rfl, rfl⟩ -
    refine wq_cif_eq (tgt := 96) (q := 83) rfl rfl rfl (fun c80 => ?_) (fun c80 => ?_)
    · skip
      refine wq_aload_n (kk := 0) (q := 97) rfl rfl rfl ?_
      refine wq_aload_n (kk := 0) (q := 98) rfl rfl rfl ?_
      refine wq_getI (kz := 14) (q := 101) rfl f_Mo_94 rfl rfl (Or.inl ⟨rfl, Nat.le_of_ble_eq_true rfl⟩) rfl rfl ?_
      refine wq_aload_n (kk := 0) (q := 102) rfl rfl rfl ?_
      refine wq_getI (kz := 13) (q := 105) rfl f_Mo_101 rfl rfl (Or.inl ⟨rfl, Nat.le_of_ble_eq_true rfl⟩) rfl rfl ?_
      refine wq_isub (q := 106) rfl rfl (by first | omega | (simp [hup]; omega)) (by first | omega | (simp [hup]; omega)) ?_
      refine wq_bipush (n := 6) (q := 108) rfl rfl rfl ?_
      refine wq_icmp_le (tgt := 115) (q := 111) rfl rfl rfl (fun c108 => ?_) (fun c108 => ?_)
      · skip
        refine wq_iconst (n := 2) (q := 116) rfl rfl rfl ?_
        refine wq_putI (kz := 15) (q := 119) rfl f_Mo_104 rfl rfl rfl (Or.inl ⟨rfl, Nat.le_of_ble_eq_true rfl⟩) rfl rfl ?_
        have en : rE (bLt T) n i = i := rE_n (by
          rcases sv with z | z
          · right; simp [bLt]; omega
          · left; omega)
        rw [en] at hr
        refine wq_vret rfl rfl (Nat.le_refl _) (Nat.le_refl _) ⟨rfl, rfl, hf.up (by decide) (by decide), by rw [hup_j (by decide), eS]; exact e13, ?_, fun _ => by rw [hup_j (by decide), e14, t.2]; exact hr, fun z => ?_⟩
        · rw [hup_s, t.1, ← hr]
          unfold kR
          first
          | (rw [if_pos (show i - s ≤ 6 by omega)]; rfl)
          | (rw [if_neg (show ¬ i - s ≤ 6 by omega)]; rfl)
        · rw [t.1] at z
          split at z <;> omega
      · skip
        refine wq_iconst (n := 1) (q := 112) rfl rfl rfl ?_
        refine wq_goto (tgt := 116) rfl rfl ?_
        refine wq_putI (kz := 15) (q := 119) rfl f_Mo_104 rfl rfl rfl (Or.inl ⟨rfl, Nat.le_of_ble_eq_true rfl⟩) rfl rfl ?_
        have en : rE (bLt T) n i = i := rE_n (by
          rcases sv with z | z
          · right; simp [bLt]; omega
          · left; omega)
        rw [en] at hr
        refine wq_vret rfl rfl (Nat.le_refl _) (Nat.le_refl _) ⟨rfl, rfl, hf.up (by decide) (by decide), by rw [hup_j (by decide), eS]; exact e13, ?_, fun _ => by rw [hup_j (by decide), e14, t.2]; exact hr, fun z => ?_⟩
        · rw [hup_s, t.1, ← hr]
          unfold kR
          first
          | (rw [if_pos (show i - s ≤ 6 by omega)]; rfl)
          | (rw [if_neg (show ¬ i - s ≤ 6 by omega)]; rfl)
        · rw [t.1] at z
          split at z <;> omega
    · skip
      refine wq_aload_n (kk := 0) (q := 84) rfl rfl rfl ?_
      refine wq_dup (q := 85) rfl rfl rfl ?_
      refine wq_getI (kz := 14) (q := 88) rfl f_Mo_94 rfl rfl (Or.inl ⟨rfl, Nat.le_of_ble_eq_true rfl⟩) rfl rfl ?_
      refine wq_iconst (n := 1) (q := 89) rfl rfl rfl ?_
      refine wq_iadd (q := 90) rfl rfl (by first | omega | (simp [hup]; omega)) (by first | omega | (simp [hup]; omega)) ?_
      refine wq_putI (kz := 14) (q := 93) rfl f_Mo_94 rfl rfl rfl (Or.inl ⟨rfl, Nat.le_of_ble_eq_true rfl⟩) rfl rfl ?_
      refine wq_goto (tgt := 65) rfl rfl ?_
      have ey := rE_y (f := bLt T) (n := n) (i := i) (by omega) (by simp [bLt]; omega)
      refine ih _ (by omega) (i + 1) _ rfl (by omega) (by omega) (hf.up (by decide) (by decide)) (by rw [hup_j (by decide)]; exact e13) (by rw [hup_s, e14]) (by rw [ey]; exact hr)
set_option maxRecDepth 100000 in
set_option maxHeartbeats 1000000 in
theorem Mo_goD (T : mF) (n p s : Int) (h : mH) (r : mR) (hS : rdR T n p h) (eS : tS T n p = s) (s0 : 0 ≤ s) (sn : s < n) (hl : 48 ≤ T s ∧ T s ≤ 57) (x1 : Option mV) : ∀ (M : Nat) (i : Int) (h1 : mH), (n - i).toNat = M → s ≤ i → i ≤ n → f64 goF [64] h h1 → h1 64 13 = s → h1 64 14 = i → rE (bDg T) n i = rE (bDg T) n s → (∀ j, s ≤ j → j < i → 48 ≤ T j ∧ T j ≤ 57) → (i - s ≤ 4 → h1 64 16 = cB 10 48 T s (i - s).toNat) → WP (true, rm 2) m_Mo_goesOn (rt m_Mo_goesOn (rm 2) (goQ T n p h r)) 136 [some (vR 64), x1] [] h1 r (0, 0) := by
  intro M
  induction M using Nat.strongRecOn with
  | ind M ih =>
    intro i h1 hM i0 i1 hf e13 e14 hr hd hv
    have hS1 := rdR_f hS hf (by decide) (by decide)
    have e12 := hS1.2.1
    have hb := hS.2.2.1
    have sv := see_v hS1 (i := i) (by omega)
    have vb : i - s < 4 → 0 ≤ h1 64 16 ∧ h1 64 16 ≤ 99999 := fun z => by
      have hc := cB_lt (B := 10) (o := 48) (by omega) (T := T) (s := s) (L := (i - s).toNat) (fun j j0 j1 => by have := hd j j0 (by omega); omega)
      have hp := (pow_lo (L := (i - s).toNat) (by omega)).2.2
      rw [hv (by omega)]
      omega
    obtain ⟨-, -, -, td, -⟩ := tk_at eS
    have t := td sn (by omega) (by omega) hl
    refine wq_aload_n (kk := 0) (q := 137) rfl rfl rfl ?_
    refine wq_aload_n (kk := 0) (q := 138) rfl rfl rfl ?_
    refine wq_getI (kz := 14) (q := 141) rfl f_Mo_94 rfl rfl (Or.inl ⟨rfl, Nat.le_of_ble_eq_true rfl⟩) rfl rfl ?_
    refine wq_callV (q := 144) (m' := m_Mo_see) (R' := rm 1) (As := [_]) rfl rfl l_Mo_97 vm_Mo_see rfl rfl rfl (Or.inl ⟨rfl, Nat.le_of_ble_eq_true rfl⟩) (Nat.le_of_ble_eq_true rfl) (Nat.le_of_ble_eq_true rfl) (Nat.le_refl _) (Nat.le_refl _) (Nat.le_of_ble_eq_true rfl) (Mo_see_ok _ h1 r (by omega) (by omega)) rfl ?_
    rintro rv h1 r ⟨rfl, rfl, rfl⟩ -
    rw [e14]
    generalize hy : (if i < h1 64 12 then h1 65 i else -1) = y at sv ⊢
    unfold bq at sv
    refine wq_bipush (n := 48) (q := 146) rfl rfl rfl ?_
    refine wq_bipush (n := 57) (q := 148) rfl rfl rfl ?_
    refine wq_callS (q := 151) (m' := m_Mo_in) (R' := rm 1) (As := [_, _, _]) rfl rfl l_Mo_107 sm_Mo_in rfl (Nat.le_of_ble_eq_true rfl) (Nat.le_of_ble_eq_true rfl) (Nat.le_refl _) (Nat.le_refl _) (Nat.le_of_ble_eq_true rfl) (Mo_in_ok _ _ _ h1 r) rfl ?_
    rintro rv h1 r ⟨rfl, rfl, rfl⟩ -
    refine wq_cif_eq (tgt := 210) (q := 154) rfl rfl rfl (fun c151 => ?_) (fun c151 => ?_)
    · skip
      refine wq_aload_n (kk := 0) (q := 211) rfl rfl rfl ?_
      refine wq_aload_n (kk := 0) (q := 212) rfl rfl rfl ?_
      refine wq_getI (kz := 14) (q := 215) rfl f_Mo_94 rfl rfl (Or.inl ⟨rfl, Nat.le_of_ble_eq_true rfl⟩) rfl rfl ?_
      refine wq_aload_n (kk := 0) (q := 216) rfl rfl rfl ?_
      refine wq_getI (kz := 13) (q := 219) rfl f_Mo_101 rfl rfl (Or.inl ⟨rfl, Nat.le_of_ble_eq_true rfl⟩) rfl rfl ?_
      refine wq_isub (q := 220) rfl rfl (by first | omega | (have := vb (by omega); omega) | (rw [hup_j (by decide)]; omega)) (by first | omega | (have := vb (by omega); omega) | (rw [hup_j (by decide)]; omega)) ?_
      refine wq_iconst (n := 4) (q := 221) rfl rfl rfl ?_
      refine wq_icmp_le (tgt := 228) (q := 224) rfl rfl rfl (fun c221 => ?_) (fun c221 => ?_)
      · skip
        refine wq_iconst (n := 3) (q := 229) rfl rfl rfl ?_
        refine wq_putI (kz := 15) (q := 232) rfl f_Mo_104 rfl rfl rfl (Or.inl ⟨rfl, Nat.le_of_ble_eq_true rfl⟩) rfl rfl ?_
        have en : rE (bDg T) n i = i := rE_n (by
          rcases sv with z | z
          · right; simp [bDg]; omega
          · left; omega)
        rw [en] at hr
        refine wq_vret rfl rfl (Nat.le_refl _) (Nat.le_refl _) ⟨rfl, rfl, hf.up (by decide) (by decide), by rw [hup_j (by decide), eS]; exact e13, ?_, fun _ => by rw [hup_j (by decide), e14, t.2]; exact hr, fun z => ?_⟩
        · rw [hup_s, t.1, ← hr]
          unfold kR
          first
          | (rw [if_pos (show i - s ≤ 4 by omega)]; rfl)
          | (rw [if_neg (show ¬ i - s ≤ 4 by omega)]; rfl)
        · rw [t.1, ← hr] at z
          have z' : i - s ≤ 4 := by
            by_cases y : i - s ≤ 4
            · exact y
            · rw [if_neg y] at z; omega
          rw [hup_j (by decide), hv z']
          unfold c10 tC
          rw [t.2, eS, ← hr]
      · skip
        refine wq_iconst (n := 1) (q := 225) rfl rfl rfl ?_
        refine wq_goto (tgt := 229) rfl rfl ?_
        refine wq_putI (kz := 15) (q := 232) rfl f_Mo_104 rfl rfl rfl (Or.inl ⟨rfl, Nat.le_of_ble_eq_true rfl⟩) rfl rfl ?_
        have en : rE (bDg T) n i = i := rE_n (by
          rcases sv with z | z
          · right; simp [bDg]; omega
          · left; omega)
        rw [en] at hr
        refine wq_vret rfl rfl (Nat.le_refl _) (Nat.le_refl _) ⟨rfl, rfl, hf.up (by decide) (by decide), by rw [hup_j (by decide), eS]; exact e13, ?_, fun _ => by rw [hup_j (by decide), e14, t.2]; exact hr, fun z => ?_⟩
        · rw [hup_s, t.1, ← hr]
          unfold kR
          first
          | (rw [if_pos (show i - s ≤ 4 by omega)]; rfl)
          | (rw [if_neg (show ¬ i - s ≤ 4 by omega)]; rfl)
        · rw [t.1, ← hr] at z
          have z' : i - s ≤ 4 := by
            by_cases y : i - s ≤ 4
            · exact y
            · rw [if_neg y] at z; omega
          rw [hup_j (by decide), hv z']
          unfold c10 tC
          rw [t.2, eS, ← hr]
    · skip
      refine wq_aload_n (kk := 0) (q := 155) rfl rfl rfl ?_
      refine wq_aload_n (kk := 0) (q := 156) rfl rfl rfl ?_
      refine wq_getI (kz := 14) (q := 159) rfl f_Mo_94 rfl rfl (Or.inl ⟨rfl, Nat.le_of_ble_eq_true rfl⟩) rfl rfl ?_
      refine wq_aload_n (kk := 0) (q := 160) rfl rfl rfl ?_
      refine wq_getI (kz := 13) (q := 163) rfl f_Mo_101 rfl rfl (Or.inl ⟨rfl, Nat.le_of_ble_eq_true rfl⟩) rfl rfl ?_
      refine wq_isub (q := 164) rfl rfl (by first | omega | (have := vb (by omega); omega) | (rw [hup_j (by decide)]; omega)) (by first | omega | (have := vb (by omega); omega) | (rw [hup_j (by decide)]; omega)) ?_
      refine wq_iconst (n := 4) (q := 165) rfl rfl rfl ?_
      refine wq_icmp_ge (tgt := 190) (q := 168) rfl rfl rfl (fun c165 => ?_) (fun c165 => ?_)
      · skip
        refine wq_aload_n (kk := 0) (q := 191) rfl rfl rfl ?_
        refine wq_getI (kz := 16) (q := 194) rfl f_Mo_111 rfl rfl (Or.inl ⟨rfl, Nat.le_of_ble_eq_true rfl⟩) rfl rfl ?_
        refine wq_putI (kz := 16) (q := 197) rfl f_Mo_111 rfl rfl rfl (Or.inl ⟨rfl, Nat.le_of_ble_eq_true rfl⟩) rfl rfl ?_
        refine wq_aload_n (kk := 0) (q := 198) rfl rfl rfl ?_
        refine wq_dup (q := 199) rfl rfl rfl ?_
        refine wq_getI (kz := 14) (q := 202) rfl f_Mo_94 rfl rfl (Or.inl ⟨rfl, Nat.le_of_ble_eq_true rfl⟩) rfl rfl ?_
        refine wq_iconst (n := 1) (q := 203) rfl rfl rfl ?_
        refine wq_iadd (q := 204) rfl rfl (by first | omega | (have := vb (by omega); omega) | (rw [hup_j (by decide)]; omega)) (by first | omega | (have := vb (by omega); omega) | (rw [hup_j (by decide)]; omega)) ?_
        refine wq_putI (kz := 14) (q := 207) rfl f_Mo_94 rfl rfl rfl (Or.inl ⟨rfl, Nat.le_of_ble_eq_true rfl⟩) rfl rfl ?_
        refine wq_goto (tgt := 136) rfl rfl ?_
        have ey := rE_y (f := bDg T) (n := n) (i := i) (by omega) (by simp [bDg]; omega)
        refine ih _ (by omega) (i + 1) _ rfl (by omega) (by omega) ((hf.up (by decide) (by decide)).up (by decide) (by decide)) (by rw [hup_j (by decide), hup_j (by decide)]; exact e13) (by rw [hup_s, hup_j (by decide), e14]) (by rw [ey]; exact hr) (fun j j0 j1 => ?_) (fun z => ?_)
        · by_cases ej : j = i
          · subst ej; omega
          · exact hd j j0 (by omega)
        · rw [hup_j (by decide), hup_s, cB_s i0]
          first
          | (rw [hv (by omega)]; omega)
          | (exfalso; omega)
      · skip
        refine wq_bipush (n := 10) (q := 170) rfl rfl rfl ?_
        refine wq_aload_n (kk := 0) (q := 171) rfl rfl rfl ?_
        refine wq_getI (kz := 16) (q := 174) rfl f_Mo_111 rfl rfl (Or.inl ⟨rfl, Nat.le_of_ble_eq_true rfl⟩) rfl rfl ?_
        refine wq_imul (q := 175) rfl rfl (by first | omega | (have := vb (by omega); omega) | (rw [hup_j (by decide)]; omega)) (by first | omega | (have := vb (by omega); omega) | (rw [hup_j (by decide)]; omega)) ?_
        refine wq_aload_n (kk := 0) (q := 176) rfl rfl rfl ?_
        refine wq_aload_n (kk := 0) (q := 177) rfl rfl rfl ?_
        refine wq_getI (kz := 14) (q := 180) rfl f_Mo_94 rfl rfl (Or.inl ⟨rfl, Nat.le_of_ble_eq_true rfl⟩) rfl rfl ?_
        refine wq_callV (q := 183) (m' := m_Mo_see) (R' := rm 1) (As := [_]) rfl rfl l_Mo_97 vm_Mo_see rfl rfl rfl (Or.inl ⟨rfl, Nat.le_of_ble_eq_true rfl⟩) (Nat.le_of_ble_eq_true rfl) (Nat.le_of_ble_eq_true rfl) (Nat.le_refl _) (Nat.le_refl _) (Nat.le_of_ble_eq_true rfl) (Mo_see_ok _ h1 r (by omega) (by omega)) rfl ?_
        rintro rv h1 r ⟨rfl, rfl, rfl⟩ -
        rw [e14, hy]
        refine wq_iadd (q := 184) rfl rfl (by first | omega | (have := vb (by omega); omega) | (rw [hup_j (by decide)]; omega)) (by first | omega | (have := vb (by omega); omega) | (rw [hup_j (by decide)]; omega)) ?_
        refine wq_bipush (n := 48) (q := 186) rfl rfl rfl ?_
        refine wq_isub (q := 187) rfl rfl (by first | omega | (have := vb (by omega); omega) | (rw [hup_j (by decide)]; omega)) (by first | omega | (have := vb (by omega); omega) | (rw [hup_j (by decide)]; omega)) ?_
        refine wq_goto (tgt := 194) rfl rfl ?_
        refine wq_putI (kz := 16) (q := 197) rfl f_Mo_111 rfl rfl rfl (Or.inl ⟨rfl, Nat.le_of_ble_eq_true rfl⟩) rfl rfl ?_
        refine wq_aload_n (kk := 0) (q := 198) rfl rfl rfl ?_
        refine wq_dup (q := 199) rfl rfl rfl ?_
        refine wq_getI (kz := 14) (q := 202) rfl f_Mo_94 rfl rfl (Or.inl ⟨rfl, Nat.le_of_ble_eq_true rfl⟩) rfl rfl ?_
        refine wq_iconst (n := 1) (q := 203) rfl rfl rfl ?_
        refine wq_iadd (q := 204) rfl rfl (by first | omega | (have := vb (by omega); omega) | (rw [hup_j (by decide)]; omega)) (by first | omega | (have := vb (by omega); omega) | (rw [hup_j (by decide)]; omega)) ?_
        refine wq_putI (kz := 14) (q := 207) rfl f_Mo_94 rfl rfl rfl (Or.inl ⟨rfl, Nat.le_of_ble_eq_true rfl⟩) rfl rfl ?_
        refine wq_goto (tgt := 136) rfl rfl ?_
        have ey := rE_y (f := bDg T) (n := n) (i := i) (by omega) (by simp [bDg]; omega)
        refine ih _ (by omega) (i + 1) _ rfl (by omega) (by omega) ((hf.up (by decide) (by decide)).up (by decide) (by decide)) (by rw [hup_j (by decide), hup_j (by decide)]; exact e13) (by rw [hup_s, hup_j (by decide), e14]) (by rw [ey]; exact hr) (fun j j0 j1 => ?_) (fun z => ?_)
        · by_cases ej : j = i
          · subst ej; omega
          · exact hd j j0 (by omega)
        · rw [hup_j (by decide), hup_s, cB_s i0]
          first
          | (rw [hv (by omega)]; omega)
          | (exfalso; omega)
set_option maxRecDepth 100000 in
set_option maxHeartbeats 1000000 in
theorem Mo_goS (T : mF) (n p : Int) (h : mH) (r : mR) (hS : rdR T n p h) : ∀ (M : Nat) (i : Int) (h1 : mH), (n - i).toNat = M → p ≤ i → i ≤ n → f64 goF [64] h h1 → h1 64 14 = i → rE (bSp T) n i = rE (bSp T) n p → WP (true, rm 2) m_Mo_goesOn (rt m_Mo_goesOn (rm 2) (goQ T n p h r)) 0 [some (vR 64), none] [] h1 r (0, 0) := by
  intro M
  induction M using Nat.strongRecOn with
  | ind M ih =>
    intro i h1 hM i0 i1 hf e14 hr
    have hS1 := rdR_f hS hf (by decide) (by decide)
    have e12 := hS1.2.1
    have hb := hS.2.2.1
    have p0 := hS.2.2.2.1
    have sv := see_v hS1 (i := i) (by omega)
    refine wq_aload_n (kk := 0) (q := 1) rfl rfl rfl ?_
    refine wq_aload_n (kk := 0) (q := 2) rfl rfl rfl ?_
    refine wq_getI (kz := 14) (q := 5) rfl f_Mo_94 rfl rfl (Or.inl ⟨rfl, Nat.le_of_ble_eq_true rfl⟩) rfl rfl ?_
    refine wq_callV (q := 8) (m' := m_Mo_see) (R' := rm 1) (As := [_]) rfl rfl l_Mo_97 vm_Mo_see rfl rfl rfl (Or.inl ⟨rfl, Nat.le_of_ble_eq_true rfl⟩) (Nat.le_of_ble_eq_true rfl) (Nat.le_of_ble_eq_true rfl) (Nat.le_refl _) (Nat.le_refl _) (Nat.le_of_ble_eq_true rfl) (Mo_see_ok _ h1 r (by omega) (by omega)) rfl ?_
    rintro rv h1 r ⟨rfl, rfl, rfl⟩ -
    rw [e14]
    generalize hy : (if i < h1 64 12 then h1 65 i else -1) = y at sv ⊢
    unfold bq at sv
    refine wq_bipush (n := 32) (q := 10) rfl rfl rfl ?_
    refine wq_icmp_ne (tgt := 26) (q := 13) rfl rfl rfl (fun c10 => ?_) (fun c10 => ?_)
    · skip
      have en : rE (bSp T) n i = i := rE_n (by
        rcases sv with z | z
        · right; simp [bSp]; omega
        · left; omega)
      rw [en] at hr
      have eS : tS T n p = i := hr.symm
      refine wq_aload_n (kk := 0) (q := 27) rfl rfl rfl ?_
      refine wq_aload_n (kk := 0) (q := 28) rfl rfl rfl ?_
      refine wq_getI (kz := 14) (q := 31) rfl f_Mo_94 rfl rfl (Or.inl ⟨rfl, Nat.le_of_ble_eq_true rfl⟩) rfl rfl ?_
      refine wq_putI (kz := 13) (q := 34) rfl f_Mo_101 rfl rfl rfl (Or.inl ⟨rfl, Nat.le_of_ble_eq_true rfl⟩) rfl rfl ?_
      rw [e14]
      have f2 : f64 goF [64] h (hup h1 64 13 i) := hf.up (by decide) (by decide)
      have e14' : hup h1 64 13 i 64 14 = i := by rw [hup_j (by decide)]; exact e14
      have e12' : hup h1 64 13 i 64 12 = n := by rw [hup_j (by decide)]; exact e12
      refine wq_aload_n (kk := 0) (q := 35) rfl rfl rfl ?_
      refine wq_aload_n (kk := 0) (q := 36) rfl rfl rfl ?_
      refine wq_getI (kz := 14) (q := 39) rfl f_Mo_94 rfl rfl (Or.inl ⟨rfl, Nat.le_of_ble_eq_true rfl⟩) rfl rfl ?_
      refine wq_callV (q := 42) (m' := m_Mo_see) (R' := rm 1) (As := [_]) rfl rfl l_Mo_97 vm_Mo_see rfl rfl rfl (Or.inl ⟨rfl, Nat.le_of_ble_eq_true rfl⟩) (Nat.le_of_ble_eq_true rfl) (Nat.le_of_ble_eq_true rfl) (Nat.le_refl _) (Nat.le_refl _) (Nat.le_of_ble_eq_true rfl) (Mo_see_ok _ _ r (by rw [e14']; omega) (by rw [e12']; omega)) rfl ?_
      rintro rv h2 r ⟨rfl, rfl, rfl⟩ -
      rw [e14', show (if i < hup h1 64 13 i 64 12 then hup h1 64 13 i 65 i else -1) = y by rw [hup_j (by decide), hup_i (by decide)]; exact hy]
      refine wq_istore_n (kk := 1) (q := 43) rfl rfl (Nat.le_of_ble_eq_true rfl) rfl ?_
      refine wq_iload_n (kk := 1) (q := 44) rfl rfl rfl ?_
      refine wq_iconst (n := -1) (q := 45) rfl rfl rfl ?_
      refine wq_icmp_ne (tgt := 54) (q := 48) rfl rfl rfl (fun c45 => ?_) (fun c45 => ?_)
      · skip
        refine wq_iload_n (kk := 1) (q := 55) rfl rfl rfl ?_
        refine wq_bipush (n := 97) (q := 57) rfl rfl rfl ?_
        refine wq_bipush (n := 122) (q := 59) rfl rfl rfl ?_
        refine wq_callS (q := 62) (m' := m_Mo_in) (R' := rm 1) (As := [_, _, _]) rfl rfl l_Mo_107 sm_Mo_in rfl (Nat.le_of_ble_eq_true rfl) (Nat.le_of_ble_eq_true rfl) (Nat.le_refl _) (Nat.le_refl _) (Nat.le_of_ble_eq_true rfl) (Mo_in_ok _ _ _ _ r) rfl ?_
        rintro rv h2 r ⟨rfl, rfl, rfl⟩ -
        refine wq_cif_eq (tgt := 120) (q := 65) rfl rfl rfl (fun c62 => ?_) (fun c62 => ?_)
        · skip
          refine wq_iload_n (kk := 1) (q := 121) rfl rfl rfl ?_
          refine wq_bipush (n := 48) (q := 123) rfl rfl rfl ?_
          refine wq_bipush (n := 57) (q := 125) rfl rfl rfl ?_
          refine wq_callS (q := 128) (m' := m_Mo_in) (R' := rm 1) (As := [_, _, _]) rfl rfl l_Mo_107 sm_Mo_in rfl (Nat.le_of_ble_eq_true rfl) (Nat.le_of_ble_eq_true rfl) (Nat.le_refl _) (Nat.le_refl _) (Nat.le_of_ble_eq_true rfl) (Mo_in_ok _ _ _ _ r) rfl ?_
          rintro rv h2 r ⟨rfl, rfl, rfl⟩ -
          refine wq_cif_eq (tgt := 233) (q := 131) rfl rfl rfl (fun c128 => ?_) (fun c128 => ?_)
          · skip
            refine wq_aload_n (kk := 0) (q := 234) rfl rfl rfl ?_
            refine wq_dup (q := 235) rfl rfl rfl ?_
            refine wq_getI (kz := 14) (q := 238) rfl f_Mo_94 rfl rfl (Or.inl ⟨rfl, Nat.le_of_ble_eq_true rfl⟩) rfl rfl ?_
            refine wq_iconst (n := 1) (q := 239) rfl rfl rfl ?_
            have d1 : i < n ∧ 0 ≤ y ∧ (y = T i ∨ (T i < 0 ∧ 128 ≤ y)) := by omega
            clear sv
            refine wq_iadd (q := 240) rfl rfl (by first | omega | (simp [hup]; omega)) (by first | omega | (simp [hup]; omega)) ?_
            refine wq_putI (kz := 14) (q := 243) rfl f_Mo_94 rfl rfl rfl (Or.inl ⟨rfl, Nat.le_of_ble_eq_true rfl⟩) rfl rfl ?_
            refine wq_aload_n (kk := 0) (q := 244) rfl rfl rfl ?_
            refine wq_iload_n (kk := 1) (q := 245) rfl rfl rfl ?_
            refine wq_bipush (n := 59) (q := 247) rfl rfl rfl ?_
            refine wq_icmp_ne (tgt := 254) (q := 250) rfl rfl rfl (fun c247 => ?_) (fun c247 => ?_)
            · skip
              have t := (tk_at eS).2.2.2.2 d1.1 (by omega) (by omega) (by omega)
              refine wq_iconst (n := 1) (q := 255) rfl rfl rfl ?_
              refine wq_putI (kz := 15) (q := 258) rfl f_Mo_104 rfl rfl rfl (Or.inl ⟨rfl, Nat.le_of_ble_eq_true rfl⟩) rfl rfl ?_
              first
              | (refine wq_vret rfl rfl (Nat.le_refl _) (Nat.le_refl _) ⟨rfl, rfl, (f2.up (by decide) (by decide)).up (by decide) (by decide), ?_, ?_, fun z => absurd t.1 z, fun z => absurd (t.1.symm.trans z) (by decide)⟩
                 · rw [hup_j (by decide), hup_j (by decide), hup_s, eS]
                 · rw [hup_s, t.1]; rfl)
              | (refine wq_vret rfl rfl (Nat.le_refl _) (Nat.le_refl _) ⟨rfl, rfl, (f2.up (by decide) (by decide)).up (by decide) (by decide), ?_, ?_, fun _ => ?_, fun z => absurd (t.1.symm.trans z) (by decide)⟩
                 · rw [hup_j (by decide), hup_j (by decide), hup_s, eS]
                 · rw [hup_s, t.1, c247]; rfl
                 · rw [hup_j (by decide), hup_s, e14', t.2])
            · skip
              have t := (tk_at eS).2.1 d1.1 (by omega)
              refine wq_iload_n (kk := 1) (q := 251) rfl rfl rfl ?_
              refine wq_goto (tgt := 255) rfl rfl ?_
              refine wq_putI (kz := 15) (q := 258) rfl f_Mo_104 rfl rfl rfl (Or.inl ⟨rfl, Nat.le_of_ble_eq_true rfl⟩) rfl rfl ?_
              first
              | (refine wq_vret rfl rfl (Nat.le_refl _) (Nat.le_refl _) ⟨rfl, rfl, (f2.up (by decide) (by decide)).up (by decide) (by decide), ?_, ?_, fun z => absurd t.1 z, fun z => absurd (t.1.symm.trans z) (by decide)⟩
                 · rw [hup_j (by decide), hup_j (by decide), hup_s, eS]
                 · rw [hup_s, t.1]; rfl)
              | (refine wq_vret rfl rfl (Nat.le_refl _) (Nat.le_refl _) ⟨rfl, rfl, (f2.up (by decide) (by decide)).up (by decide) (by decide), ?_, ?_, fun _ => ?_, fun z => absurd (t.1.symm.trans z) (by decide)⟩
                 · rw [hup_j (by decide), hup_j (by decide), hup_s, eS]
                 · rw [hup_s, t.1, c247]; rfl
                 · rw [hup_j (by decide), hup_s, e14', t.2])
          · skip
            refine wq_aload_n (kk := 0) (q := 132) rfl rfl rfl ?_
            refine wq_iconst (n := 0) (q := 133) rfl rfl rfl ?_
            refine wq_putI (kz := 16) (q := 136) rfl f_Mo_111 rfl rfl rfl (Or.inl ⟨rfl, Nat.le_of_ble_eq_true rfl⟩) rfl rfl ?_
            exact Mo_goD T n p i h r hS eS (by omega) (by omega) (by omega) _ _ i _ rfl (Int.le_refl _) (by omega) (f2.up (by decide) (by decide)) (by rw [hup_j (by decide), hup_s]) (by rw [hup_j (by decide)]; exact e14') rfl (fun j j0 j1 => by omega) (fun _ => by rw [hup_s, show (i - i).toNat = 0 by omega]; rfl)
        · skip
          exact Mo_goW T n p i h r hS eS (by omega) (by omega) (by omega) _ _ i _ rfl (Int.le_refl _) (by omega) f2 hup_s e14' rfl
      · skip
        refine wq_aload_n (kk := 0) (q := 49) rfl rfl rfl ?_
        refine wq_iconst (n := 0) (q := 50) rfl rfl rfl ?_
        refine wq_putI (kz := 15) (q := 53) rfl f_Mo_104 rfl rfl rfl (Or.inl ⟨rfl, Nat.le_of_ble_eq_true rfl⟩) rfl rfl ?_
        have t := (tk_at eS).1 (by omega)
        refine wq_vret rfl rfl (Nat.le_refl _) (Nat.le_refl _) ⟨rfl, rfl, f2.up (by decide) (by decide), ?_, ?_, fun _ => ?_, fun z => by omega⟩
        · rw [hup_j (by decide), hup_s, eS]
        · rw [hup_s, t.1]; rfl
        · rw [hup_j (by decide), e14', t.2]
    · skip
      refine wq_aload_n (kk := 0) (q := 14) rfl rfl rfl ?_
      refine wq_dup (q := 15) rfl rfl rfl ?_
      refine wq_getI (kz := 14) (q := 18) rfl f_Mo_94 rfl rfl (Or.inl ⟨rfl, Nat.le_of_ble_eq_true rfl⟩) rfl rfl ?_
      refine wq_iconst (n := 1) (q := 19) rfl rfl rfl ?_
      refine wq_iadd (q := 20) rfl rfl (by first | omega | (simp [hup]; omega)) (by first | omega | (simp [hup]; omega)) ?_
      refine wq_putI (kz := 14) (q := 23) rfl f_Mo_94 rfl rfl rfl (Or.inl ⟨rfl, Nat.le_of_ble_eq_true rfl⟩) rfl rfl ?_
      refine wq_goto (tgt := 0) rfl rfl ?_
      have ey := rE_y (f := bSp T) (n := n) (i := i) (by omega) (by simp [bSp]; omega)
      exact ih _ (by omega) (i + 1) _ rfl (by omega) (by omega) (hf.up (by decide) (by decide)) (by rw [hup_s, e14]) (by rw [ey]; exact hr)
theorem Mo_goesOn_ok (T : mF) (n p : Int) (h : mH) (r : mR) (hS : rdR T n p h) (hp : h 64 14 = p) : Meets true (rm 2) m_Mo_goesOn [vR 64] h r (goQ T n p h r) := by
  refine ⟨ok_Mo_goesOn, Nat.le_of_ble_eq_true rfl, ?_⟩
  exact Mo_goS T n p h r hS _ p h rfl (Int.le_refl _) hS.2.2.2.2 f64.rf hp rfl

/-! the start: both systems are made; the coupling stands -/
theorem La_law_dec : ∀ q ∈ m_La_law.2.2.2.2, decode code q.1 = .ok q.2 := all_app (all_app (all_app (all_app (all_app (all_app (all_app (all_app (all_app (all_app (all_app (all_app (all_app (all_app (all_app (all_app (all_app (all_app (all_app (all_app (all_app (all_app (all_app (all_app (all_app (all_app (all_app (all_app (all_app (t_La_law_0_ok) t_La_law_1_ok) t_La_law_2_ok) t_La_law_3_ok) t_La_law_4_ok) t_La_law_5_ok) t_La_law_6_ok) t_La_law_7_ok) t_La_law_8_ok) t_La_law_9_ok) t_La_law_10_ok) t_La_law_11_ok) t_La_law_12_ok) t_La_law_13_ok) t_La_law_14_ok) t_La_law_15_ok) t_La_law_16_ok) t_La_law_17_ok) t_La_law_18_ok) t_La_law_19_ok) t_La_law_20_ok) t_La_law_21_ok) t_La_law_22_ok) t_La_law_23_ok) t_La_law_24_ok) t_La_law_25_ok) t_La_law_26_ok) t_La_law_27_ok) t_La_law_28_ok) t_La_law_29_ok
abbrev r00 : mR := (fun _ _ => none, 0)
def rF : mR := rnew (x_c_Mo_init_64 (rnew (x_c_Lt_init_0 (rnew r00))))
def hF : mH := hup h0 64 3 (-1)
theorem hn86 {n : Nat} (hn : 65 ≤ n) : hnew (hup h0 64 3 (-1)) n = hup h0 64 3 (-1) := by
  funext a b
  unfold hnew
  split
  · rename_i e
    subst e
    rw [hup_i (by omega)]
  · rfl
set_option maxRecDepth 100000 in
set_option maxHeartbeats 4000000 in
theorem law_start : WP (false, room_1) m_La_law (atX 23 (lsL (6 * ((0 : Nat) : Int))) [] hF rF (87, 34970)) 0 [some (vR sScr), none, none, none, none, none, none] [] h0 r00 (0, 0) := by
  refine wq_new (ci := 9) (q := 3) k_cl_La_8 k_ins_9 k_ini_9 rfl rfl rfl rfl rfl (Nat.le_of_ble_eq_true rfl) (Nat.le_of_ble_eq_true rfl) (Nat.le_of_ble_eq_true rfl) ?_
  rw [hn0]
  refine wq_dup (q := 4) rfl rfl rfl ?_
  refine wq_callI (q := 7) (m' := m_Lt_init) (As := []) (rest := [vR 0]) rfl rfl l_La_15 in_Lt_init rfl rfl rfl (Nat.le_of_ble_eq_true rfl) (Nat.le_of_ble_eq_true rfl) (Nat.le_of_ble_eq_true rfl) (Nat.le_of_ble_eq_true rfl) (Nat.le_of_ble_eq_true rfl) (c_Lt_init_0 _ rfl) rfl ?_
  rintro rv h1 r1 ⟨rfl, rfl, rfl⟩ -
  refine wq_astore_n (kk := 1) (q := 8) rfl rfl (Nat.le_of_ble_eq_true rfl) rfl ?_
  refine wq_new (ci := 10) (q := 11) k_cl_La_16 k_ins_10 k_ini_10 rfl rfl rfl rfl rfl (Nat.le_of_ble_eq_true rfl) (Nat.le_of_ble_eq_true rfl) (Nat.le_of_ble_eq_true rfl) ?_
  rw [hn0]
  refine wq_dup (q := 12) rfl rfl rfl ?_
  refine wq_callI (q := 15) (m' := m_Mo_init) (As := []) (rest := [vR 64]) rfl rfl l_La_18 in_Mo_init rfl rfl rfl (Nat.le_of_ble_eq_true rfl) (Nat.le_of_ble_eq_true rfl) (Nat.le_of_ble_eq_true rfl) (Nat.le_of_ble_eq_true rfl) (Nat.le_of_ble_eq_true rfl) (c_Mo_init_64 _ rfl) rfl ?_
  rintro rv h1 r1 ⟨rfl, rfl, rfl⟩ -
  refine wq_astore_n (kk := 2) (q := 16) rfl rfl (Nat.le_of_ble_eq_true rfl) rfl ?_
  refine wq_iconst (n := 1) (q := 17) rfl rfl rfl ?_
  refine wq_newL (n := 1) (q := 19) k_ac_long rfl rfl (Nat.le_of_ble_eq_true rfl) rfl rfl (Nat.le_of_ble_eq_true rfl) (Nat.le_of_ble_eq_true rfl) (Nat.le_of_ble_eq_true rfl) ?_
  rw [hn86 (Nat.le_of_ble_eq_true rfl)]
  refine wq_astore_n (kk := 3) (q := 20) rfl rfl (Nat.le_of_ble_eq_true rfl) rfl ?_
  refine wq_iconst (n := 0) (q := 21) rfl rfl rfl ?_
  refine wq_istore (i := 4) (q := 23) rfl rfl (Nat.le_of_ble_eq_true rfl) rfl ?_
  exact WP.exit ⟨rfl, rfl, rfl, rfl, rfl, rfl⟩
theorem rf_gen {R : mR} (key : ∀ p ∈ rfT, ∀ q ∈ p.2, R.1 p.1 q.1 = some q.2) {i k t : Nat} (h : rfq i k = some t) : R.1 i k = some t := by
  unfold rfq at h
  split at h
  · rename_i l hl
    exact key (i, l) (lookup_mem hl) (k, t) (lookup_mem h)
  · cases h
theorem rF_key : ∀ p ∈ rfT, ∀ q ∈ p.2, rF.1 p.1 q.1 = some q.2 := by decide +kernel
theorem rF_n : nIds ≤ rF.2 := by decide +kernel
theorem rF_ok : rfOK rF := ⟨rF_n, fun _ _ _ h => rf_gen rF_key h⟩
theorem hF_i {i : Nat} (h : i ≠ 64) (j : Int) : hF i j = 0 := by unfold hF; rw [hup_i h]
theorem hF_j {j : Int} (h : j ≠ 3) : hF 64 j = 0 := by unfold hF; rw [hup_j h]
theorem Cp_start : Cp hF rF := by
  have z := @hF_i
  have r2 : rF.1 0 2 = some 2 := by decide +kernel
  have r3 : rF.1 0 3 = some 13 := by decide +kernel
  have b4 : rF.1 58 4 = some 62 := by decide +kernel
  have b5 : rF.1 58 5 = some 63 := by decide +kernel
  have V : RV (hF 66) := by
    refine ⟨?_, ?_, ?_, ?_, ?_, ?_, fun s s0 s1 => ?_, fun d d0 d1 => ?_⟩
    · rw [z (by decide)]; decide
    · rw [z (by decide)]; decide
    · rw [z (by decide)]; decide
    · rw [z (by decide)]; decide
    · rw [z (by decide)]; decide
    · intro _
      rw [z (by decide), z (by decide), z (by decide), z (by decide)]; exact ⟨rfl, rfl, rfl, rfl⟩
    · rw [z (by decide)] at s1; omega
    · rw [z (by decide)] at d1; omega
  have m : dM 2 hF (hF 66) := by
    refine ⟨?_, ?_, ?_, ?_, ?_, fun s s0 s1 => ?_, fun d d0 d1 => ?_⟩
    · rw [z (by decide), z (by decide)]
    · rw [z (by decide), z (by decide)]
    · rw [z (by decide), z (by decide)]
    · rw [z (by decide), z (by decide)]
    · rw [z (by decide), z (by decide)]
    · rw [z (by decide)] at s1; omega
    · rw [z (by decide)] at d1; omega
  refine ⟨⟨DV_d m V, ?_, ?_, r2, 62, 63, Or.inl ⟨rfl, rfl⟩, b4, b5⟩, r3, m, ⟨V, Or.inr ⟨hF_j (by decide), z (by decide) _, z (by decide) _⟩⟩, ⟨?_, ?_, ?_⟩, ⟨?_, ?_, ?_, ?_⟩, ?_, ?_, ?_⟩
  · rw [z (by decide)]; decide
  · rw [z (by decide)]
    exact ⟨fun i i0 i1 => by omega, fun p => rfl⟩
  · rw [hF_j (by decide), z (by decide)]
  · rw [hF_j (by decide), z (by decide)]
  · intro y
    rw [hF_j (by decide)] at y
    omega
  · rw [z (by decide)]; decide
  · rw [z (by decide)]; decide
  · rw [hF_j (by decide), z (by decide)]
  · intro j j0 j1
    rw [z (by decide)] at j1
    omega
  · rw [hF_j (by decide)]; decide
  · rw [hF_j (by decide), z (by decide)]
  · intro j j0 j1
    rw [hF_j (by decide)] at j1
    omega

/-- how often the best way from a to b changes at each spot -/
def TcR (N : mN) (t a b : Int) (g : mF) : Prop := (a = b ∧ ∀ s, g s = 0) ∨ (a ≠ b ∧ ∃ B e t' l x f, Bst N a b t B e t' l x f ∧ (f = -1 ∧ (∀ s, g s = 0) ∨ f ≠ -1 ∧ ∀ s, g s = tcn N x f (l f - 1) s))
theorem TcR.uniq {N : mN} (hV : NV N) {t a b : Int} {g g' : mF} (h : TcR N t a b g) (h' : TcR N t a b g') (s : Int) : g s = g' s := by
  rcases h with ⟨z, h⟩ | ⟨z, B, e, t', l, x, f, h1, h2⟩
  · rcases h' with ⟨-, h'⟩ | ⟨z', -⟩
    · rw [h, h']
    · exact absurd z z'
  · rcases h' with ⟨z', -⟩ | ⟨-, B', e', t'', l', x', f', k1, k2⟩
    · exact absurd z' z
    · have hf := (Bst.eq hV h1 k1).1
      subst hf
      rcases h2 with ⟨y, h2⟩ | ⟨y, h2⟩
      · rcases k2 with ⟨-, k2⟩ | ⟨y', -⟩
        · rw [h2, k2]
        · exact absurd y y'
      · rcases k2 with ⟨y', -⟩ | ⟨-, k2⟩
        · exact absurd y' y
        · rw [h2, k2, (Bst.idle hV h1 k1 y).2 s]
/-- all of them together -/
def Tt (N : mN) (t : Int) (T : mF) : Prop := ∃ C : Int → Int → mF, (∀ b a, 0 ≤ b → b < nS N → 0 ≤ a → a < nS N → TcR N t a b (C b a)) ∧ ∀ s, 0 ≤ s → s < nS N → T s = sm (fun b => sm (fun a => C b a s) (nS N).toNat) (nS N).toNat
theorem Tt.uniq {N : mN} (hV : NV N) {t : Int} {T T' : mF} (h : Tt N t T) (h' : Tt N t T') {s : Int} (s0 : 0 ≤ s) (s1 : s < nS N) : T s = T' s := by
  obtain ⟨C, h1, h2⟩ := h
  obtain ⟨C', k1, k2⟩ := h'
  rw [h2 s s0 s1, k2 s s0 s1]
  exact sm_congr (fun b b0 b1 => sm_congr (fun a a0 a1 => TcR.uniq hV (h1 b a b0 (by omega) a0 (by omega)) (k1 b a b0 (by omega) a0 (by omega)) s))
abbrev ctC : List Nat := [41, 42, 43, 44, 45, 46, 47]
abbrev ctQ (N : mN) (t : Int) (h : mH) (r : mR) : mP := fun rv h1 r1 => rv = none ∧ r1 = r ∧ fr ctC h h1 ∧ Tt N t (h1 43) ∧ ∀ s, 0 ≤ s → s < nS N → 0 ≤ h1 43 s ∧ h1 43 s ≤ 100000
theorem tcn_b (N : mN) (x : mF) (f n s : Int) : 0 ≤ tcn N x f n s ∧ tcn N x f n s ≤ n.toNat := cn_b _ _
set_option maxRecDepth 100000 in
set_option maxHeartbeats 2000000 in
theorem Se_ctA (N : mN) (t b : Int) (h : mH) (r : mR) (hw : netW h r N) (hb : 0 ≤ b ∧ b < nS N) (bs : mF) (hbs : ∀ s, 0 ≤ s → s < nS N → 0 ≤ bs s ∧ bs s ≤ 1200 * b) (Q : mX) (K : ∀ h2 y, fr ctC h h2 → (∃ g : Int → mF, (∀ a, 0 ≤ a → a < nS N → TcR N t a b (g a)) ∧ ∀ s, 0 ≤ s → s < nS N → h2 43 s = bs s + sm (fun a => g a s) (nS N).toNat ∧ h2 43 s ≤ 1200 * (b + 1) ∧ 0 ≤ h2 43 s) → WP (true, rm 5) m_Se_countTurns Q 85 [some (vR 40), some (vR 31), some (vI t), some (vI (nS N)), some (vI b), y] [] h2 r (0, 0)) :
    ∀ (M : Nat) (a : Int) (h' : mH), (nS N - a).toNat = M → 0 ≤ a → a ≤ nS N → fr ctC h h' → aimed N b h' → (∃ g : Int → mF, (∀ x, 0 ≤ x → x < a → TcR N t x b (g x)) ∧ ∀ s, 0 ≤ s → s < nS N → h' 43 s = bs s + sm (fun x => g x s) a.toNat ∧ h' 43 s ≤ 1200 * b + 120 * a ∧ 0 ≤ h' 43 s) → WP (true, rm 5) m_Se_countTurns Q 50 [some (vR 40), some (vR 31), some (vI t), some (vI (nS N)), some (vI b), some (vI a)] [] h' r (0, 0) := by
  intro M
  induction M using Nat.strongRecOn with
  | ind M ih =>
    intro a h' hM a0 a1 hf hA hg
    obtain ⟨g, g1, g2⟩ := hg
    have hV := hw.2.1
    have hS := hV.2.1
    have hw' : netW h' r N := hw.fr hf (by decide)
    have ext : ∀ (G : mF) (h2 : mH), TcR N t a b G → (∀ s, 0 ≤ s → s < nS N → h2 43 s = h' 43 s + G s ∧ 0 ≤ G s ∧ G s ≤ 120) → ∃ g : Int → mF, (∀ x, 0 ≤ x → x < a + 1 → TcR N t x b (g x)) ∧ ∀ s, 0 ≤ s → s < nS N → h2 43 s = bs s + sm (fun x => g x s) (a + 1).toNat ∧ h2 43 s ≤ 1200 * b + 120 * (a + 1) ∧ 0 ≤ h2 43 s := by
      intro G h2 hG hx
      refine ⟨fun x => if x = a then G else g x, fun x x0 x1 => ?_, fun s s0 s1 => ?_⟩
      · by_cases e : x = a
        · subst e; dsimp only; rw [if_pos rfl]; exact hG
        · dsimp only; rw [if_neg e]; exact g1 x x0 (by omega)
      · have y := hx s s0 s1
        have z := g2 s s0 s1
        rw [sm_s a0]
        have e : sm (fun x => (if x = a then G else g x) s) a.toNat = sm (fun x => g x s) a.toNat := sm_congr (fun d d0 d1 => by rw [if_neg (by omega)])
        rw [e]
        simp only [if_pos]
        omega
    refine wq_iload (i := 5) (q := 52) rfl rfl rfl ?_
    refine wq_iload_n (kk := 3) (q := 53) rfl rfl rfl ?_
    refine wq_icmp_ge (tgt := 85) (q := 56) rfl rfl rfl (fun c53 => ?_) (fun c53 => ?_)
    · skip
      have e : a = nS N := by omega
      subst e
      refine K h' _ hf ⟨g, g1, fun s s0 s1 => ?_⟩
      have := g2 s s0 s1
      exact ⟨this.1, by omega, this.2.2⟩
    · skip
      refine wq_iload (i := 5) (q := 58) rfl rfl rfl ?_
      refine wq_iload (i := 4) (q := 60) rfl rfl rfl ?_
      refine wq_icmp_eq (tgt := 79) (q := 63) rfl rfl rfl (fun c60 => ?_) (fun c60 => ?_)
      · skip
        refine wq_iinc (i := 5) (n := 1) (q := 82) rfl rfl rfl (Nat.le_of_ble_eq_true rfl) rfl (by omega) (by omega) ?_
        refine wq_goto (tgt := 50) rfl rfl ?_
        refine ih _ ?_ (a + 1) h' rfl (by omega) (by omega) hf hA (ext (fun _ => 0) h' (Or.inl ⟨by omega, fun _ => rfl⟩) (fun s s0 s1 => ⟨by omega, by omega, by omega⟩))
        omega
      · skip
        refine wq_aload_n (kk := 0) (q := 64) rfl rfl rfl ?_
        refine wq_aload_n (kk := 1) (q := 65) rfl rfl rfl ?_
        refine wq_iload (i := 5) (q := 67) rfl rfl rfl ?_
        refine wq_iload_n (kk := 2) (q := 68) rfl rfl rfl ?_
        refine wq_callV (q := 71) (m' := m_Se_trace) (R' := rm 3) (As := [_, _, _]) rfl rfl l_Se_42 vm_Se_trace rfl rfl rfl (Or.inl ⟨rfl, Nat.le_of_ble_eq_true rfl⟩) (Nat.le_of_ble_eq_true rfl) (Nat.le_of_ble_eq_true rfl) (Nat.le_refl _) (Nat.le_refl _) (Nat.le_of_ble_eq_true rfl) (Se_trace_ok N a t b h' r hw' (by omega) hA) rfl ?_
        rintro rv h2 r2 ⟨rfl, f2, f, hF, hcase⟩ -
        have hA2 : aimed N b h2 := hA.fr f2 (by decide)
        have hB : Bst N a b t 1000000 (h2 44) (h2 45) (h2 46) (h2 47) f := ⟨hA2.1, by omega, by rw [f2 44 (by decide), f2 45 (by decide), f2 46 (by decide)]; exact hF⟩
        have hfr2 : fr ctC h h2 := hf.trans f2 (by decide)
        have hab : a ≠ b := c60
        have e43 : ∀ s, h2 43 s = h' 43 s := fun s => f2.at 43 s (by decide)
        rcases hcase with ⟨z1, rfl, z2⟩ | ⟨z1, rfl, z2⟩
        · refine wq_if_eq (tgt := 79) (q := 74) rfl rfl rfl (fun _ => ?_) (fun q => absurd rfl q)
          refine wq_iinc (i := 5) (n := 1) (q := 82) rfl rfl rfl (Nat.le_of_ble_eq_true rfl) rfl (by omega) (by omega) ?_
          refine wq_goto (tgt := 50) rfl rfl ?_
          refine ih _ ?_ (a + 1) h2 rfl (by omega) (by omega) hfr2 hA2 (ext (fun _ => 0) h2 (Or.inr ⟨hab, _, _, _, _, _, f, hB, Or.inl ⟨z1, fun _ => rfl⟩⟩) (fun s s0 s1 => ⟨by rw [e43]; omega, by omega, by omega⟩))
          omega
        · refine wq_if_eq (tgt := 79) (q := 74) rfl rfl rfl (fun q => absurd q (by decide)) (fun _ => ?_)
          have hc : Fc N 1000000 (h2 44) a t f := hB.2.2.elim (fun q => absurd q.1 z1) (fun q => q.2.1)
          have hlb := (hA2.2 f hc.1).2
          refine wq_aload_n (kk := 0) (q := 75) rfl rfl rfl ?_
          refine wq_aload_n (kk := 1) (q := 76) rfl rfl rfl ?_
          refine wq_callV (q := 79) (m' := m_Se_addTurns) (R' := rm 2) (As := [_]) rfl rfl l_Se_58 vm_Se_addTurns rfl rfl rfl (Or.inl ⟨rfl, Nat.le_of_ble_eq_true rfl⟩) (Nat.le_of_ble_eq_true rfl) (Nat.le_of_ble_eq_true rfl) (Nat.le_refl _) (Nat.le_refl _) (Nat.le_of_ble_eq_true rfl) (Se_addTurns_ok N b f h2 r2 (hw'.fr f2 (by decide)) hA2 hc.1 hc.2.1 hc.2.2.2.2 z2 (fun s s0 s1 => by rw [e43 s]; have := g2 s s0 s1; omega)) rfl ?_
          rintro rv h3 r3 ⟨rfl, rfl, f3, x3⟩ -
          refine wq_iinc (i := 5) (n := 1) (q := 82) rfl rfl rfl (Nat.le_of_ble_eq_true rfl) rfl (by omega) (by omega) ?_
          refine wq_goto (tgt := 50) rfl rfl ?_
          refine ih _ ?_ (a + 1) h3 rfl (by omega) (by omega) (hfr2.trans f3 (by decide)) (hA2.fr f3 (by decide)) (ext _ h3 (Or.inr ⟨hab, _, _, _, _, _, f, hB, Or.inr ⟨z1, fun _ => rfl⟩⟩) (fun s s0 s1 => ?_))
          · omega
          · have := tcn_b N (h2 47) f (h2 46 f - 1) s
            rw [x3 s s0 s1, e43]
            have := hc.2.2.2.2
            exact ⟨rfl, by omega, by omega⟩
set_option maxRecDepth 100000 in
set_option maxHeartbeats 2000000 in
theorem Se_ctB (N : mN) (t : Int) (h : mH) (r : mR) (hw : netW h r N) : ∀ (M : Nat) (b : Int) (h' : mH) (y : Option mV), (nS N - b).toNat = M → 0 ≤ b → b ≤ nS N → fr ctC h h' → (∃ C : Int → Int → mF, (∀ b' a, 0 ≤ b' → b' < b → 0 ≤ a → a < nS N → TcR N t a b' (C b' a)) ∧ ∀ s, 0 ≤ s → s < nS N → h' 43 s = sm (fun b => sm (fun a => C b a s) (nS N).toNat) b.toNat ∧ h' 43 s ≤ 1200 * b ∧ 0 ≤ h' 43 s) → WP (true, rm 5) m_Se_countTurns (rt m_Se_countTurns (rm 5) (ctQ N t h r)) 34 [some (vR 40), some (vR 31), some (vI t), some (vI (nS N)), some (vI b), y] [] h' r (0, 0) := by
  intro M
  induction M using Nat.strongRecOn with
  | ind M ih =>
    intro b h' y hM b0 b1 hf hC
    obtain ⟨C, g1, g2⟩ := hC
    have hV := hw.2.1
    have hS := hV.2.1
    have hw' : netW h' r N := hw.fr hf (by decide)
    refine wq_iload (i := 4) (q := 36) rfl rfl rfl ?_
    refine wq_iload_n (kk := 3) (q := 37) rfl rfl rfl ?_
    refine wq_icmp_ge (tgt := 91) (q := 40) rfl rfl rfl (fun c37 => ?_) (fun c37 => ?_)
    · skip
      have e : b = nS N := by omega
      subst e
      refine wq_vret rfl rfl (Nat.le_refl _) (Nat.le_refl _) ⟨rfl, rfl, hf, ⟨C, fun b' a h0 h1 a0 a1 => g1 b' a h0 h1 a0 a1, fun s s0 s1 => (g2 s s0 s1).1⟩, fun s s0 s1 => ?_⟩
      have := g2 s s0 s1
      omega
    · skip
      refine wq_aload_n (kk := 0) (q := 41) rfl rfl rfl ?_
      refine wq_aload_n (kk := 1) (q := 42) rfl rfl rfl ?_
      refine wq_iload (i := 4) (q := 44) rfl rfl rfl ?_
      refine wq_callV (q := 47) (m' := m_Se_aim) (R' := rm 4) (As := [_, _]) rfl rfl l_Se_38 vm_Se_aim rfl rfl rfl (Or.inl ⟨rfl, Nat.le_of_ble_eq_true rfl⟩) (Nat.le_of_ble_eq_true rfl) (Nat.le_of_ble_eq_true rfl) (Nat.le_refl _) (Nat.le_refl _) (Nat.le_of_ble_eq_true rfl) (Se_aim_ok N b h' r hw') rfl ?_
      rintro rv h2 r2 ⟨rfl, rfl, f2, hA⟩ -
      refine wq_iconst (n := 0) (q := 48) rfl rfl rfl ?_
      refine wq_istore (i := 5) (q := 50) rfl rfl (Nat.le_of_ble_eq_true rfl) rfl ?_
      refine Se_ctA N t b h' r2 hw' (by omega) (h' 43) (fun s s0 s1 => ⟨(g2 s s0 s1).2.2, (g2 s s0 s1).2.1⟩) _ (fun h3 y f3 hg => ?_) _ 0 h2 rfl (by omega) (by omega) (f2.mono (by decide)) hA ⟨fun _ _ => 0, fun x x0 x1 => by omega, fun s s0 s1 => ?_⟩
      · obtain ⟨g, k1, k2⟩ := hg
        refine wq_iinc (i := 4) (n := 1) (q := 88) rfl rfl rfl (Nat.le_of_ble_eq_true rfl) rfl (by omega) (by omega) ?_
        refine wq_goto (tgt := 34) rfl rfl ?_
        refine ih _ ?_ (b + 1) h3 _ rfl (by omega) (by omega) (hf.trans f3 (by decide)) ⟨fun b' => if b' = b then g else C b', fun b' a h0 h1 a0 a1 => ?_, fun s s0 s1 => ?_⟩
        · omega
        · by_cases e : b' = b
          · subst e; dsimp only; rw [if_pos rfl]; exact k1 a a0 a1
          · dsimp only; rw [if_neg e]; exact g1 b' a h0 (by omega) a0 a1
        · have z := k2 s s0 s1
          have w := g2 s s0 s1
          rw [sm_s b0]
          have e : sm (fun b_1 => sm (fun a => (if b_1 = b then g else C b_1) a s) (nS N).toNat) b.toNat = sm (fun b => sm (fun a => C b a s) (nS N).toNat) b.toNat := sm_congr (fun d d0 d1 => by rw [if_neg (by omega)])
          rw [e]
          simp only [if_pos]
          omega
      · rw [f2.at 43 s (by decide)]
        have := g2 s s0 s1
        refine ⟨?_, by omega, this.2.2⟩
        show h' 43 s = h' 43 s + 0
        omega
set_option maxRecDepth 100000 in
set_option maxHeartbeats 2000000 in
theorem Se_ctZ (N : mN) (t : Int) (h : mH) (r : mR) (hw : netW h r N) : ∀ (M : Nat) (s : Int) (h' : mH) (y : Option mV), (nS N - s).toNat = M → 0 ≤ s → s ≤ nS N → fr ctC h h' → (∀ x, 0 ≤ x → x < s → h' 43 x = 0) → WP (true, rm 5) m_Se_countTurns (rt m_Se_countTurns (rm 5) (ctQ N t h r)) 11 [some (vR 40), some (vR 31), some (vI t), some (vI (nS N)), some (vI s), y] [] h' r (0, 0) := by
  intro M
  induction M using Nat.strongRecOn with
  | ind M ih =>
    intro s h' y hM s0 s1 hf hx
    have hV := hw.2.1
    have hS := hV.2.1
    refine wq_iload (i := 4) (q := 13) rfl rfl rfl ?_
    refine wq_iload_n (kk := 3) (q := 14) rfl rfl rfl ?_
    refine wq_icmp_ge (tgt := 31) (q := 17) rfl rfl rfl (fun c14 => ?_) (fun c14 => ?_)
    · skip
      refine wq_iconst (n := 0) (q := 32) rfl rfl rfl ?_
      refine wq_istore (i := 4) (q := 34) rfl rfl (Nat.le_of_ble_eq_true rfl) rfl ?_
      refine Se_ctB N t h r hw _ 0 h' _ rfl (by omega) (by omega) hf ⟨fun _ _ _ => 0, fun b' a h0 h1 => by omega, fun x x0 x1 => ⟨by rw [hx x x0 (by omega)]; rfl, by rw [hx x x0 (by omega)]; omega, by rw [hx x x0 (by omega)]; omega⟩⟩
    · skip
      refine wq_aload_n (kk := 0) (q := 18) rfl rfl rfl ?_
      refine wq_getF (q := 21) f_Se_18 rfl rfl (Nat.le_of_ble_eq_true rfl) rfl rfl rfl ?_
      refine wq_iload (i := 4) (q := 23) rfl rfl rfl ?_
      refine wq_iconst (n := 0) (q := 24) rfl rfl rfl ?_
      refine wq_iast (q := 25) rfl (Or.inl ⟨rfl, Nat.le_of_ble_eq_true rfl⟩) rfl rfl (by first | omega | (simp [hup]; omega)) (by first | omega | (simp [hup]; omega)) ?_
      refine wq_iinc (i := 4) (n := 1) (q := 28) rfl rfl rfl (Nat.le_of_ble_eq_true rfl) rfl (by first | omega | (simp [hup]; omega)) (by first | omega | (simp [hup]; omega)) ?_
      refine wq_goto (tgt := 11) rfl rfl ?_
      refine ih _ ?_ (s + 1) _ _ rfl (by omega) (by omega) (hf.up (by decide)) (fun x x0 x1 => ?_)
      · omega
      · by_cases e : x = s
        · subst e; rw [hup_s]
        · rw [hup_j e]; exact hx x x0 (by omega)
set_option maxRecDepth 100000 in
theorem Se_countTurns_ok (N : mN) (t : Int) (h : mH) (r : mR) (hw : netW h r N) : Meets true (rm 5) m_Se_countTurns [vR 40, vR 31, vI t] h r (ctQ N t h r) := by
  obtain ⟨hnde, hV, hN, hO, hG⟩ := id hw
  have hS := hV.2.1
  refine ⟨ok_Se_countTurns, Nat.le_of_ble_eq_true rfl, ?_⟩
  refine wq_aload_n (kk := 1) (q := 1) rfl rfl rfl ?_
  refine wq_getR (q := 4) f_Se_46 rfl rfl (Or.inl ⟨rfl, Nat.le_of_ble_eq_true rfl⟩) hnde rfl rfl ?_
  refine wq_getI (kz := 1) (q := 7) rfl f_Se_52 rfl rfl (Or.inl ⟨rfl, Nat.le_of_ble_eq_true rfl⟩) rfl rfl ?_
  rw [hN.2.1]
  refine wq_istore_n (kk := 3) (q := 8) rfl rfl (Nat.le_of_ble_eq_true rfl) rfl ?_
  refine wq_iconst (n := 0) (q := 9) rfl rfl rfl ?_
  refine wq_istore (i := 4) (q := 11) rfl rfl (Nat.le_of_ble_eq_true rfl) rfl ?_
  exact Se_ctZ N t h r hw _ 0 h _ rfl (by omega) (by omega) fr.rf (fun x x0 x1 => by omega)

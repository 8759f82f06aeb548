/-! LinkTimesModel: pairs, hub, slowest -/
noncomputable def Cc (N : mN) (t b a : Int) : mF := Classical.epsilon (fun g => TcR N t a b g)
theorem Cc_t {N : mN} {t a b : Int} {g : mF} (h : TcR N t a b g) : TcR N t a b (Cc N t b a) := Classical.epsilon_spec (p := fun g => TcR N t a b g) ⟨g, h⟩
theorem Cc_eq {N : mN} (hV : NV N) {t a b : Int} {g : mF} (h : TcR N t a b g) (s : Int) : Cc N t b a s = g s := TcR.uniq hV (Cc_t h) h s
theorem tcn_s {N : mN} {x : mF} {f k s : Int} (k0 : 0 ≤ k) : tcn N x f (k + 1) s = tcn N x f k s + (if ln N (itr x k.toNat f) ≠ ln N (itr x (k.toNat + 1) f) ∧ frm N (itr x (k.toNat + 1) f) = s then 1 else 0) := by
  unfold tcn
  rw [cn_s k0]
  simp only [Bool.and_eq_true, decide_eq_true_eq]
theorem tcn_r {N : mN} {x : mF} {f k s : Int} (k0 : 0 ≤ k) : 0 ≤ tcn N x f k s ∧ tcn N x f k s ≤ k := by
  unfold tcn
  have := cn_b (fun k => decide (ln N (itr x k.toNat f) ≠ ln N (itr x (k.toNat + 1) f)) && decide (frm N (itr x (k.toNat + 1) f) = s)) k.toNat
  omega
set_option maxRecDepth 100000 in
set_option maxHeartbeats 1000000 in
theorem Mo_pairT (N : mN) (t a b f : Int) (X : mX) (h0 : mH) (r : mR) (hM : isM h0 N) (hB : Bst N a b t 9999 (h0 73) (h0 74) (h0 75) (h0 76) f) (hf : f ≠ -1) (hl : h0 75 f ≤ 120) (hb5 : ∀ s, 0 ≤ s → s < 10 → 0 ≤ h0 85 s ∧ h0 85 s ≤ 100000) (K : ∀ h2 d, fr [85] h0 h2 → (∀ s, 0 ≤ s → s < 10 → h2 85 s = h0 85 s + tcn N (h0 76) f (h0 75 f - 1) s) → WP (true, rm 7) m_Mo_laysPairs X 188 [some (vR 64), some (vI t), some (vI b), some (vI a), some (vI d)] [] h2 r (0, 0)) : ∀ (M : Nat) (k : Int) (h1 : mH), (h0 75 f - k).toNat = M → 0 ≤ k → k < h0 75 f → fr [85] h0 h1 → (∀ s, 0 ≤ s → s < 10 → h1 85 s = h0 85 s + tcn N (h0 76) f k s) → WP (true, rm 7) m_Mo_laysPairs X 133 [some (vR 64), some (vI t), some (vI b), some (vI a), some (vI (itr (h0 76) k.toNat f))] [] h1 r (0, 0) := by
  intro M
  induction M using Nat.strongRecOn with
  | ind M ih =>
    intro k h1 hN k0 k1 hfr h5
    have hV := hM.1
    have hc := hB.fc hf
    have hn := hV.1
    have hS := hV.2.1
    have hM1 := isM_f hM hfr (by decide)
    have it : ∀ j : Int, 0 ≤ j → j < h0 75 f → (0 ≤ itr (h0 76) j.toNat f ∧ itr (h0 76) j.toNat f < nN N) ∧ rn N (itr (h0 76) j.toNat f) = 1 ∧ h0 73 (itr (h0 76) j.toNat f) = h0 73 f ∧ h0 75 (itr (h0 76) j.toNat f) = h0 75 f - j := fun j j0 j1 => by
      have := Lab.it hV hB.2.1 hB.1 hc.1 hc.2.1 hc.2.2.2.2 j.toNat (by omega)
      exact ⟨this.1, this.2.1, this.2.2.1, by rw [this.2.2.2]; omega⟩
    obtain ⟨i1, i2, i3, i4⟩ := it k k0 k1
    have nx := Lab.nx hV hB.2.1 hB.1 i1 i2 (by rw [i3]; exact hc.2.2.2.2)
    have e76 : h1 76 (itr (h0 76) k.toNat f) = itr (h0 76) (k.toNat + 1) f := by rw [hfr.at 76 _ (by decide)]; rfl
    have e3 : itr (h0 76) (k.toNat + 1) f = itr (h0 76) (k + 1).toNat f := by rw [show (k + 1).toNat = k.toNat + 1 by omega]
    have v1 := hV.2.2.1 _ i1
    have z1 := (hM1.2.2.2.1 _ i1).2.2.2.1
    have h5d := h5 (dst N (itr (h0 76) k.toNat f)) (by omega) (by omega)
    have hb5d := hb5 (dst N (itr (h0 76) k.toNat f)) (by omega) (by omega)
    have tb := tcn_r (N := N) (x := h0 76) (f := f) (s := dst N (itr (h0 76) k.toNat f)) k0
    refine wq_aload_n (kk := 0) (q := 134) rfl rfl rfl ?_
    refine wq_getF (q := 137) f_Mo_48 rfl rfl (Nat.le_of_ble_eq_true rfl) rfl rfl rfl ?_
    refine wq_iload (i := 4) (q := 139) rfl rfl rfl ?_
    refine wq_iald (q := 140) rfl (Or.inl ⟨rfl, Nat.le_of_ble_eq_true rfl⟩) rfl rfl (by first | omega | (simp [hup]; omega)) (by first | omega | (simp [hup]; omega)) ?_
    refine wq_iconst (n := -1) (q := 141) rfl rfl rfl ?_
    refine wq_icmp_eq (tgt := 188) (q := 144) rfl rfl rfl (fun c141 => ?_) (fun c141 => ?_)
    · skip
      rw [e76] at c141
      have ek : k = h0 75 f - 1 := by
        rcases nx with ⟨-, y, -⟩ | ⟨y, -⟩
        · omega
        · have y1 : 0 ≤ itr (h0 76) (k.toNat + 1) f := y.1.1
          omega
      exact K h1 _ hfr (by rw [← ek]; exact h5)
    · skip
      rw [e76] at c141
      have k2 : k + 1 < h0 75 f ∧ frm N (itr (h0 76) (k.toNat + 1) f) = dst N (itr (h0 76) k.toNat f) := by
        rcases nx with ⟨y, -⟩ | ⟨y, y2, -⟩
        · exact absurd y c141
        · have := Lab.l2 hV hB.2.1 hB.1 y.1 y.2.1 y.2.2.2.2
          exact ⟨by omega, y.2.2.2.1⟩
      obtain ⟨j1, -⟩ := it (k + 1) (by omega) k2.1
      rw [← e3] at j1
      have htn := tn_b N (itr (h0 76) k.toNat f) (itr (h0 76) (k.toNat + 1) f)
      refine wq_aload_n (kk := 0) (q := 145) rfl rfl rfl ?_
      refine wq_getF (q := 148) f_Mo_75 rfl rfl (Nat.le_of_ble_eq_true rfl) rfl rfl rfl ?_
      refine wq_aload_n (kk := 0) (q := 149) rfl rfl rfl ?_
      refine wq_getF (q := 152) f_Mo_17 rfl rfl (Nat.le_of_ble_eq_true rfl) rfl rfl rfl ?_
      refine wq_iload (i := 4) (q := 154) rfl rfl rfl ?_
      refine wq_iconst (n := 2) (q := 155) rfl rfl rfl ?_
      refine wq_callS (q := 158) (m' := m_Mo_at) (R' := rm 1) (As := [_, _]) rfl rfl l_Mo_209 sm_Mo_at rfl (Nat.le_of_ble_eq_true rfl) (Nat.le_of_ble_eq_true rfl) (Nat.le_refl _) (Nat.le_refl _) (Nat.le_of_ble_eq_true rfl) (Mo_at_ok _ 2 h1 r (by omega) (by omega)) rfl ?_
      rintro rv h1 r ⟨rfl, rfl, rfl⟩ -
      refine wq_iald (q := 159) rfl (Or.inl ⟨rfl, Nat.le_of_ble_eq_true rfl⟩) rfl rfl (by first | omega | (simp [hup]; omega)) (by first | omega | (simp [hup]; omega)) ?_
      rw [z1]
      refine wq_dup2 (q := 160) rfl rfl rfl rfl ?_
      refine wq_iald (q := 161) rfl (Or.inl ⟨rfl, Nat.le_of_ble_eq_true rfl⟩) rfl rfl (by first | omega | (simp [hup]; omega)) (by first | omega | (simp [hup]; omega)) ?_
      refine wq_aload_n (kk := 0) (q := 162) rfl rfl rfl ?_
      refine wq_iload (i := 4) (q := 164) rfl rfl rfl ?_
      refine wq_aload_n (kk := 0) (q := 165) rfl rfl rfl ?_
      refine wq_getF (q := 168) f_Mo_48 rfl rfl (Nat.le_of_ble_eq_true rfl) rfl rfl rfl ?_
      refine wq_iload (i := 4) (q := 170) rfl rfl rfl ?_
      refine wq_iald (q := 171) rfl (Or.inl ⟨rfl, Nat.le_of_ble_eq_true rfl⟩) rfl rfl (by first | omega | (simp [hup]; omega)) (by first | omega | (simp [hup]; omega)) ?_
      refine wq_callV (q := 174) (m' := m_Mo_turns) (R' := rm 2) (As := [_, _]) rfl rfl l_Mo_289 vm_Mo_turns rfl rfl rfl (Or.inl ⟨rfl, Nat.le_of_ble_eq_true rfl⟩) (Nat.le_of_ble_eq_true rfl) (Nat.le_of_ble_eq_true rfl) (Nat.le_refl _) (Nat.le_refl _) (Nat.le_of_ble_eq_true rfl) (Mo_turns_ok N _ _ h1 r hM1 i1 (by rw [e76]; exact j1)) rfl ?_
      rintro rv h1 r ⟨rfl, rfl, rfl⟩ -
      rw [e76]
      refine wq_iadd (q := 175) rfl rfl (by first | omega | (simp [hup]; omega)) (by first | omega | (simp [hup]; omega)) ?_
      refine wq_iast (q := 176) rfl (Or.inl ⟨rfl, Nat.le_of_ble_eq_true rfl⟩) rfl rfl (by first | omega | (simp [hup]; omega)) (by first | omega | (simp [hup]; omega)) ?_
      refine wq_aload_n (kk := 0) (q := 177) rfl rfl rfl ?_
      refine wq_getF (q := 180) f_Mo_48 rfl rfl (Nat.le_of_ble_eq_true rfl) rfl rfl rfl ?_
      refine wq_iload (i := 4) (q := 182) rfl rfl rfl ?_
      refine wq_iald (q := 183) rfl (Or.inl ⟨rfl, Nat.le_of_ble_eq_true rfl⟩) rfl rfl (by first | omega | (simp [hup]; omega)) (by first | omega | (simp [hup]; omega)) ?_
      refine wq_istore (i := 4) (q := 185) rfl rfl (Nat.le_of_ble_eq_true rfl) rfl ?_
      refine wq_goto (tgt := 133) rfl rfl ?_
      rw [show ∀ A, hup h1 85 (dst N (itr (h0 76) k.toNat f)) A 76 (itr (h0 76) k.toNat f) = itr (h0 76) (k + 1).toNat f from fun A => by rw [hup_i (by decide), e76, e3]]
      refine ih _ (by omega) (k + 1) _ rfl (by omega) k2.1 (hfr.up (by decide)) (fun s s0 s1 => ?_)
      rw [tcn_s k0, k2.2]
      unfold tn at *
      by_cases es : s = dst N (itr (h0 76) k.toNat f)
      · subst es
        rw [hup_s]
        by_cases el : ln N (itr (h0 76) k.toNat f) = ln N (itr (h0 76) (k.toNat + 1) f)
        · rw [if_pos el, if_neg (fun z => z.1 el)]; omega
        · rw [if_neg el, if_pos ⟨el, rfl⟩]; omega
      · rw [hup_j es, if_neg (fun z => es z.2.symm)]
        have := h5 s s0 s1
        omega
theorem Sl_n {N : mN} {t n v : Int} {Q Q' : Int → Int → Prop} {a b : Int} (h : Sl N t n Q v) (hQ : ∀ x y, Q' x y → Q x y ∨ x = a ∧ y = b) (hQ' : ∀ x y, Q x y → Q' x y) (hn : ¬ (a ≠ b ∧ sn N a t b < 1000000)) : Sl N t n Q' v := by
  obtain ⟨h1, h2, h3⟩ := h
  refine ⟨h1.imp id (fun ⟨x, y, q, z⟩ => ⟨x, y, hQ' x y q, z⟩), h2, fun x y q x0 x1 y0 y1 ne hs => ?_⟩
  rcases hQ x y q with z | ⟨rfl, rfl⟩
  · exact h3 x y z x0 x1 y0 y1 ne hs
  · exact absurd ⟨ne, hs⟩ hn
theorem Sl_y {N : mN} {t n v w : Int} {Q Q' : Int → Int → Prop} {a b : Int} (h : Sl N t n Q v) (hQ : ∀ x y, Q' x y → Q x y ∨ x = a ∧ y = b) (hQ' : ∀ x y, Q x y → Q' x y) (hq : Q' a b) (ha : 0 ≤ a ∧ a < n) (hb : 0 ≤ b ∧ b < n) (hn : a ≠ b ∧ sn N a t b < 1000000) (hb2 : -2 ≤ sn N a t b - t ∧ sn N a t b - t ≤ 1999 ∨ sn N a t b - t < v) (hw : w = if v < sn N a t b - t then sn N a t b - t else v) : Sl N t n Q' w := by
  obtain ⟨h1, h2, h3⟩ := h
  by_cases z : v < sn N a t b - t
  · rw [if_pos z] at hw
    subst hw
    refine ⟨Or.inr ⟨a, b, hq, ha, hb, hn.1, hn.2, rfl⟩, by omega, fun x y q x0 x1 y0 y1 ne hs => ?_⟩
    rcases hQ x y q with u | ⟨rfl, rfl⟩
    · have := h3 x y u x0 x1 y0 y1 ne hs; omega
    · exact Int.le_refl _
  · rw [if_neg z] at hw
    subst hw
    refine ⟨h1.imp id (fun ⟨x, y, q, z⟩ => ⟨x, y, hQ' x y q, z⟩), h2, fun x y q x0 x1 y0 y1 ne hs => ?_⟩
    rcases hQ x y q with u | ⟨rfl, rfl⟩
    · exact h3 x y u x0 x1 y0 y1 ne hs
    · omega
/-- the pairs that have been looked at -/
def prQ (b a x y : Int) : Prop := y < b ∨ y = b ∧ x < a
def prI (N : mN) (t b a : Int) (h : mH) : Prop := h 64 40 = sm (fun y => sm (fun x => pin N t x y) (nS N).toNat) b.toNat + sm (fun x => pin N t x b) a.toNat ∧ Sl N t (nS N) (prQ b a) (h 64 41) ∧ (∀ s, 0 ≤ s → s < nS N → h 85 s = sm (fun y => sm (fun x => Cc N t y x s) (nS N).toNat) b.toNat + sm (fun x => Cc N t b x s) a.toNat) ∧ (∀ s, nS N ≤ s → s < 10 → h 85 s = 0) ∧ (∀ y x, 0 ≤ y → 0 ≤ x → x < nS N → prQ b a x y → TcR N t x y (Cc N t y x)) ∧ (∀ s, 0 ≤ s → s < 10 → 0 ≤ h 85 s ∧ h 85 s ≤ 120 * (10 * b + a)) ∧ 0 ≤ h 64 40 ∧ h 64 40 ≤ 10 * b + a
theorem prQ_s {b a x y : Int} : prQ b (a + 1) x y → prQ b a x y ∨ x = a ∧ y = b := by unfold prQ; omega
theorem prQ_m {b a x y : Int} : prQ b a x y → prQ b (a + 1) x y := by unfold prQ; omega
/-- a pair that has no way -/
theorem prI.n {N : mN} (hV : NV N) {t b a : Int} {h : mH} (hP : prI N t b a h) (a0 : 0 ≤ a) (hT : TcR N t a b (fun _ => 0)) (hn : ¬ (a ≠ b ∧ sn N a t b < 1000000)) : prI N t b (a + 1) h := by
  obtain ⟨p1, p2, p3, p4, p5, p6, p7⟩ := hP
  have hpin : pin N t a b = 0 := if_neg hn
  refine ⟨?_, Sl_n p2 (fun _ _ => prQ_s) (fun _ _ => prQ_m) hn, fun s s0 s1 => ?_, p4, fun y x y0 x0 x1 q => ?_, fun s s0 s1 => ?_, by omega⟩
  · rw [sm_s a0, hpin]; omega
  · rw [sm_s a0, Cc_eq hV hT s]
    have := p3 s s0 s1
    omega
  · rcases prQ_s q with z | ⟨rfl, rfl⟩
    · exact p5 y x y0 x0 x1 z
    · exact Cc_t hT
  · have := p6 s s0 s1; omega
theorem prI.y {N : mN} (hV : NV N) {t b a : Int} {h h1 : mH} (hP : prI N t b a h) (a0 : 0 ≤ a) (a1 : a < nS N) (b0 : 0 ≤ b ∧ b < nS N) {g : mF} (hT : TcR N t a b g) (hg : ∀ s, 0 ≤ s → s < 10 → 0 ≤ g s ∧ g s ≤ 120) (hg2 : ∀ s, nS N ≤ s → s < 10 → g s = 0) (hn : a ≠ b ∧ sn N a t b < 1000000) (hsn : -2 ≤ sn N a t b - t ∧ sn N a t b - t ≤ 1999 ∨ sn N a t b - t < h 64 41) (e1 : h1 64 40 = h 64 40 + 1) (e2 : h1 64 41 = if h 64 41 < sn N a t b - t then sn N a t b - t else h 64 41) (e3 : ∀ s, 0 ≤ s → s < 10 → h1 85 s = h 85 s + g s) : prI N t b (a + 1) h1 := by
  obtain ⟨p1, p2, p3, p4, p5, p6, p7⟩ := hP
  have hS := hV.2.1
  have hpin : pin N t a b = 1 := if_pos hn
  refine ⟨?_, Sl_y p2 (fun _ _ => prQ_s) (fun _ _ => prQ_m) (Or.inr ⟨rfl, by omega⟩) ⟨a0, a1⟩ b0 hn hsn e2, fun s s0 s1 => ?_, fun s s0 s1 => ?_, fun y x y0 x0 x1 q => ?_, fun s s0 s1 => ?_, by omega⟩
  · rw [sm_s a0, hpin, e1]; omega
  · rw [sm_s a0, Cc_eq hV hT s, e3 s s0 (by omega)]
    have := p3 s s0 s1
    omega
  · rw [e3 s (by omega) s1, p4 s s0 s1, hg2 s s0 s1]; rfl
  · rcases prQ_s q with z | ⟨rfl, rfl⟩
    · exact p5 y x y0 x0 x1 z
    · exact Cc_t hT
  · have := p6 s s0 s1
    have := hg s s0 s1
    rw [e3 s s0 s1]
    omega
theorem prI.r {N : mN} {t b n : Int} {h : mH} (hn : n = nS N) (n1 : n ≤ 10) (b0 : 0 ≤ b) (hP : prI N t b n h) : prI N t (b + 1) 0 h := by
  subst hn
  obtain ⟨p1, p2, p3, p4, p5, p6, p7⟩ := hP
  have z : ∀ (x : Int → Int), sm x (0 : Int).toNat = 0 := fun _ => rfl
  refine ⟨?_, ⟨?_, p2.2.1, fun x y q x0 x1 y0 y1 ne hs => ?_⟩, fun s s0 s1 => ?_, p4, fun y x y0 x0 x1 q => ?_, fun s s0 s1 => ?_, by omega⟩
  · rw [sm_s b0, z]; omega
  · exact p2.1.imp id (fun ⟨x, y, q, w⟩ => ⟨x, y, by unfold prQ at q ⊢; omega, w⟩)
  · exact p2.2.2 x y (by unfold prQ at q ⊢; omega) x0 x1 y0 y1 ne hs
  · rw [sm_s b0, z]
    have := p3 s s0 s1
    omega
  · exact p5 y x y0 x0 x1 (by unfold prQ at q ⊢; omega)
  · have := p6 s s0 s1; omega
abbrev paC : List Nat := [64, 73, 74, 75, 76, 77, 85]
theorem prI_f {N : mN} {t b a : Int} {h h1 : mH} (hP : prI N t b a h) (e40 : h1 64 40 = h 64 40) (e41 : h1 64 41 = h 64 41) (e85 : h1 85 = h 85) : prI N t b a h1 := by
  unfold prI at *
  rw [e40, e41, e85]
  exact hP
theorem tcn_0 {N : mN} (hV : NV N) {a b t : Int} {e c l x : mF} {f s : Int} (hB : Bst N a b t 9999 e c l x f) (hf : f ≠ -1) (hs : nS N ≤ s) : tcn N x f (l f - 1) s = 0 := by
  unfold tcn
  have hc := hB.fc hf
  refine cn_z (fun d d0 d1 => ?_)
  have := Lab.it hV hB.2.1 hB.1 hc.1 hc.2.1 hc.2.2.2.2 (d.toNat + 1) (by omega)
  have v := (hV.2.2.1 _ this.1).1
  simp only [Bool.and_eq_false_iff, decide_eq_false_iff_not]
  right
  omega
set_option maxRecDepth 100000 in
set_option maxHeartbeats 2000000 in
theorem Mo_pairF (N : mN) (t b a f : Int) (ht : isT t) (hb : 0 ≤ b ∧ b < nS N) (a0 : 0 ≤ a) (a1 : a < nS N) (X : mX) (h h1 : mH) (r : mR) (x4 : Option mV) (hf : f64 [28, 40, 41] paC h h1) (hM : isM h1 N) (hG : goal N b h1) (hP : prI N t b a h1) (hF : a = b ∧ f = -1 ∨ a ≠ b ∧ Bst N a b t 9999 (h1 73) (h1 74) (h1 75) (h1 76) f) (K : ∀ h2 y4, f64 [28, 40, 41] paC h h2 → isM h2 N → goal N b h2 → prI N t b (a + 1) h2 → WP (true, rm 7) m_Mo_laysPairs X 51 [some (vR 64), some (vI t), some (vI b), some (vI (a + 1)), y4] [] h2 r (0, 0)) : WP (true, rm 7) m_Mo_laysPairs X 76 [some (vR 64), some (vI t), some (vI b), some (vI a), x4] [vI f] h1 r (0, 0) := by
  have hV := hM.1
  have hn := hV.1
  have hS := hV.2.1
  have hp40 := hP.2.2.2.2.2.2
  have hp41 := hP.2.1.2.1
  have hfd : f ≠ -1 → a ≠ b ∧ Bst N a b t 9999 (h1 73) (h1 74) (h1 75) (h1 76) f ∧ (0 ≤ f ∧ f < nN N) ∧ (0 ≤ h1 73 f ∧ h1 73 f ≤ 1700) ∧ h1 75 f ≤ 120 ∧ 1 ≤ h1 75 f ∧ t < h1 73 f ∧ sn N a t b = h1 73 f := fun z => by
    rcases hF with y | ⟨y, hB⟩
    · exact absurd y.2 z
    · have hcf := hB.fc z
      have lb1 := (hG.2.1 f hcf.1 hcf.2.1).resolve_left hcf.2.2.2.2
      have hl := Lab.l2 hV hB.2.1 hB.1 hcf.1 hcf.2.1 hcf.2.2.2.2
      have v := hV.2.2.1 f hcf.1
      have q := hcf.2.2.2.1
      have hsn := hB.sn hV hb y
      exact ⟨y, hB, hcf.1, lb1.1, lb1.2.2.2, hl.1, by omega, by omega⟩
  refine wq_istore (i := 4) (q := 78) rfl rfl (Nat.le_of_ble_eq_true rfl) rfl ?_
  refine wq_iload (i := 4) (q := 80) rfl rfl rfl ?_
  refine wq_iconst (n := -1) (q := 81) rfl rfl rfl ?_
  refine wq_icmp_ne (tgt := 87) (q := 84) rfl rfl rfl (fun c81 => ?_) (fun c81 => ?_)
  · skip
    refine wq_aload_n (kk := 0) (q := 88) rfl rfl rfl ?_
    refine wq_dup (q := 89) rfl rfl rfl ?_
    refine wq_getI (kz := 40) (q := 92) rfl f_Mo_357 rfl rfl (Or.inl ⟨rfl, Nat.le_of_ble_eq_true rfl⟩) rfl rfl ?_
    refine wq_iconst (n := 1) (q := 93) rfl rfl rfl ?_
    refine wq_iadd (q := 94) rfl rfl (by first | omega | (have := (hfd (by omega)).2.2; omega) | (rw [hup_i (by decide)]; have := (hfd (by omega)).2.2; omega)) (by first | omega | (have := (hfd (by omega)).2.2; omega) | (rw [hup_i (by decide)]; have := (hfd (by omega)).2.2; omega)) ?_
    refine wq_putI (kz := 40) (q := 97) rfl f_Mo_357 rfl rfl rfl (Or.inl ⟨rfl, Nat.le_of_ble_eq_true rfl⟩) rfl rfl ?_
    refine wq_aload_n (kk := 0) (q := 98) rfl rfl rfl ?_
    refine wq_aload_n (kk := 0) (q := 99) rfl rfl rfl ?_
    refine wq_getF (q := 102) f_Mo_39 rfl rfl (Nat.le_of_ble_eq_true rfl) rfl rfl rfl ?_
    refine wq_iload (i := 4) (q := 104) rfl rfl rfl ?_
    refine wq_iald (q := 105) rfl (Or.inl ⟨rfl, Nat.le_of_ble_eq_true rfl⟩) rfl rfl (by first | omega | (have := (hfd (by omega)).2.2; omega) | (rw [hup_i (by decide)]; have := (hfd (by omega)).2.2; omega)) (by first | omega | (have := (hfd (by omega)).2.2; omega) | (rw [hup_i (by decide)]; have := (hfd (by omega)).2.2; omega)) ?_
    refine wq_iload_n (kk := 1) (q := 106) rfl rfl rfl ?_
    refine wq_isub (q := 107) rfl rfl (by first | omega | (have := (hfd (by omega)).2.2; omega) | (rw [hup_i (by decide)]; have := (hfd (by omega)).2.2; omega)) (by first | omega | (have := (hfd (by omega)).2.2; omega) | (rw [hup_i (by decide)]; have := (hfd (by omega)).2.2; omega)) ?_
    refine wq_aload_n (kk := 0) (q := 108) rfl rfl rfl ?_
    refine wq_getI (kz := 41) (q := 111) rfl f_Mo_360 rfl rfl (Or.inl ⟨rfl, Nat.le_of_ble_eq_true rfl⟩) rfl rfl ?_
    refine wq_icmp_le (tgt := 126) (q := 114) rfl rfl rfl (fun c111 => ?_) (fun c111 => ?_)
    · skip
      refine wq_aload_n (kk := 0) (q := 127) rfl rfl rfl ?_
      refine wq_getI (kz := 41) (q := 130) rfl f_Mo_360 rfl rfl (Or.inl ⟨rfl, Nat.le_of_ble_eq_true rfl⟩) rfl rfl ?_
      have e73 : hup h1 64 40 (h1 64 40 + 1) 73 f = h1 73 f := hup_i (by decide)
      have e41 : hup h1 64 40 (h1 64 40 + 1) 64 41 = h1 64 41 := hup_j (by decide)
      rw [e73, e41] at c111
      first | rw [e73] | rw [e41]
      refine wq_putI (kz := 41) (q := 133) rfl f_Mo_360 rfl rfl rfl (Or.inl ⟨rfl, Nat.le_of_ble_eq_true rfl⟩) rfl rfl ?_
      obtain ⟨w0, hB, w1, w2, w3, w4, w5, w6⟩ := hfd c81
      have q : ∀ c, c ≠ 64 → ∀ A B, hup (hup h1 64 40 A) 64 41 B c = h1 c := fun c hc A B => by
        funext j
        rw [hup_i hc, hup_i hc]
      have f2 : ∀ A B, f64 [28, 40, 41] paC h (hup (hup h1 64 40 A) 64 41 B) := fun A B => (hf.up (by decide) (by decide)).up (by decide) (by decide)
      have e28 : ∀ A B, hup (hup h1 64 40 A) 64 41 B 64 28 = h1 64 28 := fun A B => by rw [hup_j (by decide), hup_j (by decide)]
      refine Mo_pairT N t a b f X _ r (isM_f hM (S := [64]) ((fr.rf.up (by decide)).up (by decide)) (by decide)) (by rw [q 73 (by decide), q 74 (by decide), q 75 (by decide), q 76 (by decide)]; exact hB) c81 (by rw [q 75 (by decide)]; exact w3) (fun s s0 s1 => ?_) (fun h2 d g2 h5 => ?_) _ 0 _ rfl (by omega) (by rw [q 75 (by decide)]; omega) fr.rf (fun s s0 s1 => ?_)
      · rw [q 85 (by decide)]
        have := hP.2.2.2.2.2.1 s s0 s1
        omega
      · refine wq_iinc (i := 3) (n := 1) (q := 191) rfl rfl rfl (Nat.le_of_ble_eq_true rfl) rfl (by omega) (by omega) ?_
        refine wq_goto (tgt := 51) rfl rfl ?_
        have f3 : f64 [28, 40, 41] paC h h2 := (f2 _ _).tr (S' := []) (C' := [85]) ⟨g2, fun j _ => g2.at 64 j (by decide)⟩ (by decide) (by decide)
        have g : ∀ c, c ≠ 64 → c ≠ 85 → h2 c = h1 c := fun c c1 c2 => by rw [g2 c (by simpa using c2), q c c1]
        have hM2 : isM h2 N := by unfold isM; rw [g 66 (by decide) (by decide)]; exact hM
        refine K h2 _ f3 hM2 ?_ (hP.y hV a0 a1 hb (g := fun s => tcn N (h1 76) f (h1 75 f - 1) s) (Or.inr ⟨w0, _, _, _, _, _, f, hB, Or.inr ⟨c81, fun _ => rfl⟩⟩) (fun s s0 s1 => ?_) (fun s s0 s1 => tcn_0 hV hB c81 s0) ⟨w0, by omega⟩ (by omega) ?_ ?_ (fun s s0 s1 => ?_))
        · unfold goal lb
          rw [g 73 (by decide) (by decide), g 74 (by decide) (by decide), g 75 (by decide) (by decide), g 76 (by decide) (by decide), g 77 (by decide) (by decide), g2.at 64 28 (by decide), e28]
          exact hG
        · have := tcn_r (N := N) (x := h1 76) (f := f) (s := s) (k := h1 75 f - 1) (by omega)
          omega
        · rw [g2.at 64 40 (by decide), hup_j (by decide), hup_s]
        · rw [g2.at 64 41 (by decide), hup_s, w6]
          first | exact (if_pos (by omega)).symm | exact (if_neg (by omega)).symm
        · have := h5 s s0 s1
          rw [q 85 (by decide), q 75 (by decide), q 76 (by decide)] at this
          exact this
      · have : tcn N (hup (hup h1 64 40 (h1 64 40 + 1)) 64 41 0 76) f 0 s = 0 := rfl
        show _ = _ + tcn N _ f 0 s
        have z : ∀ x, tcn N x f 0 s = 0 := fun x => rfl
        rw [z]; omega
    · skip
      refine wq_aload_n (kk := 0) (q := 115) rfl rfl rfl ?_
      refine wq_getF (q := 118) f_Mo_39 rfl rfl (Nat.le_of_ble_eq_true rfl) rfl rfl rfl ?_
      refine wq_iload (i := 4) (q := 120) rfl rfl rfl ?_
      refine wq_iald (q := 121) rfl (Or.inl ⟨rfl, Nat.le_of_ble_eq_true rfl⟩) rfl rfl (by first | omega | (have := (hfd (by omega)).2.2; omega) | (rw [hup_i (by decide)]; have := (hfd (by omega)).2.2; omega)) (by first | omega | (have := (hfd (by omega)).2.2; omega) | (rw [hup_i (by decide)]; have := (hfd (by omega)).2.2; omega)) ?_
      refine wq_iload_n (kk := 1) (q := 122) rfl rfl rfl ?_
      refine wq_isub (q := 123) rfl rfl (by first | omega | (have := (hfd (by omega)).2.2; omega) | (rw [hup_i (by decide)]; have := (hfd (by omega)).2.2; omega)) (by first | omega | (have := (hfd (by omega)).2.2; omega) | (rw [hup_i (by decide)]; have := (hfd (by omega)).2.2; omega)) ?_
      refine wq_goto (tgt := 130) rfl rfl ?_
      have e73 : hup h1 64 40 (h1 64 40 + 1) 73 f = h1 73 f := hup_i (by decide)
      have e41 : hup h1 64 40 (h1 64 40 + 1) 64 41 = h1 64 41 := hup_j (by decide)
      rw [e73, e41] at c111
      first | rw [e73] | rw [e41]
      refine wq_putI (kz := 41) (q := 133) rfl f_Mo_360 rfl rfl rfl (Or.inl ⟨rfl, Nat.le_of_ble_eq_true rfl⟩) rfl rfl ?_
      obtain ⟨w0, hB, w1, w2, w3, w4, w5, w6⟩ := hfd c81
      have q : ∀ c, c ≠ 64 → ∀ A B, hup (hup h1 64 40 A) 64 41 B c = h1 c := fun c hc A B => by
        funext j
        rw [hup_i hc, hup_i hc]
      have f2 : ∀ A B, f64 [28, 40, 41] paC h (hup (hup h1 64 40 A) 64 41 B) := fun A B => (hf.up (by decide) (by decide)).up (by decide) (by decide)
      have e28 : ∀ A B, hup (hup h1 64 40 A) 64 41 B 64 28 = h1 64 28 := fun A B => by rw [hup_j (by decide), hup_j (by decide)]
      refine Mo_pairT N t a b f X _ r (isM_f hM (S := [64]) ((fr.rf.up (by decide)).up (by decide)) (by decide)) (by rw [q 73 (by decide), q 74 (by decide), q 75 (by decide), q 76 (by decide)]; exact hB) c81 (by rw [q 75 (by decide)]; exact w3) (fun s s0 s1 => ?_) (fun h2 d g2 h5 => ?_) _ 0 _ rfl (by omega) (by rw [q 75 (by decide)]; omega) fr.rf (fun s s0 s1 => ?_)
      · rw [q 85 (by decide)]
        have := hP.2.2.2.2.2.1 s s0 s1
        omega
      · refine wq_iinc (i := 3) (n := 1) (q := 191) rfl rfl rfl (Nat.le_of_ble_eq_true rfl) rfl (by omega) (by omega) ?_
        refine wq_goto (tgt := 51) rfl rfl ?_
        have f3 : f64 [28, 40, 41] paC h h2 := (f2 _ _).tr (S' := []) (C' := [85]) ⟨g2, fun j _ => g2.at 64 j (by decide)⟩ (by decide) (by decide)
        have g : ∀ c, c ≠ 64 → c ≠ 85 → h2 c = h1 c := fun c c1 c2 => by rw [g2 c (by simpa using c2), q c c1]
        have hM2 : isM h2 N := by unfold isM; rw [g 66 (by decide) (by decide)]; exact hM
        refine K h2 _ f3 hM2 ?_ (hP.y hV a0 a1 hb (g := fun s => tcn N (h1 76) f (h1 75 f - 1) s) (Or.inr ⟨w0, _, _, _, _, _, f, hB, Or.inr ⟨c81, fun _ => rfl⟩⟩) (fun s s0 s1 => ?_) (fun s s0 s1 => tcn_0 hV hB c81 s0) ⟨w0, by omega⟩ (by omega) ?_ ?_ (fun s s0 s1 => ?_))
        · unfold goal lb
          rw [g 73 (by decide) (by decide), g 74 (by decide) (by decide), g 75 (by decide) (by decide), g 76 (by decide) (by decide), g 77 (by decide) (by decide), g2.at 64 28 (by decide), e28]
          exact hG
        · have := tcn_r (N := N) (x := h1 76) (f := f) (s := s) (k := h1 75 f - 1) (by omega)
          omega
        · rw [g2.at 64 40 (by decide), hup_j (by decide), hup_s]
        · rw [g2.at 64 41 (by decide), hup_s, w6]
          first | exact (if_pos (by omega)).symm | exact (if_neg (by omega)).symm
        · have := h5 s s0 s1
          rw [q 85 (by decide), q 75 (by decide), q 76 (by decide)] at this
          exact this
      · have : tcn N (hup (hup h1 64 40 (h1 64 40 + 1)) 64 41 0 76) f 0 s = 0 := rfl
        show _ = _ + tcn N _ f 0 s
        have z : ∀ x, tcn N x f 0 s = 0 := fun x => rfl
        rw [z]; omega
  · skip
    refine wq_goto (tgt := 188) rfl rfl ?_
    refine wq_iinc (i := 3) (n := 1) (q := 191) rfl rfl rfl (Nat.le_of_ble_eq_true rfl) rfl (by first | omega | (have := (hfd (by omega)).2.2; omega) | (rw [hup_i (by decide)]; have := (hfd (by omega)).2.2; omega)) (by first | omega | (have := (hfd (by omega)).2.2; omega) | (rw [hup_i (by decide)]; have := (hfd (by omega)).2.2; omega)) ?_
    refine wq_goto (tgt := 51) rfl rfl ?_
    refine K h1 _ hf hM hG (hP.n hV a0 ?_ ?_)
    · rcases hF with y | ⟨y, hB⟩
      · exact Or.inl ⟨y.1, fun _ => rfl⟩
      · exact Or.inr ⟨y, _, _, _, _, _, f, hB, Or.inl ⟨c81, fun _ => rfl⟩⟩
    · rcases hF with y | ⟨y, hB⟩
      · exact fun z => z.1 y.1
      · have hsn := hB.sn hV hb y
        omega
set_option maxRecDepth 100000 in
set_option maxHeartbeats 2000000 in
theorem Mo_pairA (N : mN) (t b : Int) (ht : isT t) (hb : 0 ≤ b ∧ b < nS N) (X : mX) (h : mH) (r : mR) (K : ∀ h2 x4 x3, f64 [28, 40, 41] paC h h2 → isM h2 N → prI N t (b + 1) 0 h2 → (match x3 with | some (.inr (.inl _)) => false | _ => true) = true → WP (true, rm 7) m_Mo_laysPairs X 194 [some (vR 64), some (vI t), some (vI b), x3, x4] [] h2 r (0, 0)) : ∀ (M : Nat) (a : Int) (h1 : mH) (x4 : Option mV), (nS N - a).toNat = M → 0 ≤ a → a ≤ nS N → f64 [28, 40, 41] paC h h1 → isM h1 N → goal N b h1 → prI N t b a h1 → WP (true, rm 7) m_Mo_laysPairs X 51 [some (vR 64), some (vI t), some (vI b), some (vI a), x4] [] h1 r (0, 0) := by
  intro M
  induction M using Nat.strongRecOn with
  | ind M ih =>
    intro a h1 x4 hN a0 a1 hf hM hG hP
    have hV := hM.1
    have hS := hV.2.1
    have e1 := hM.2.2.1
    refine wq_iload_n (kk := 3) (q := 52) rfl rfl rfl ?_
    refine wq_aload_n (kk := 0) (q := 53) rfl rfl rfl ?_
    refine wq_getF (q := 56) f_Mo_17 rfl rfl (Nat.le_of_ble_eq_true rfl) rfl rfl rfl ?_
    refine wq_iconst (n := 1) (q := 57) rfl rfl rfl ?_
    refine wq_iald (q := 58) rfl (Or.inl ⟨rfl, Nat.le_of_ble_eq_true rfl⟩) rfl rfl (by first | omega | (simp [hup]; omega)) (by first | omega | (simp [hup]; omega)) ?_
    refine wq_icmp_ge (tgt := 194) (q := 61) rfl rfl rfl (fun c58 => ?_) (fun c58 => ?_)
    · skip
      have ea : a = nS N := by omega
      exact K h1 _ _ hf hM (hP.r ea (by omega) hb.1) rfl
    · skip
      refine wq_iload_n (kk := 3) (q := 62) rfl rfl rfl ?_
      refine wq_iload_n (kk := 2) (q := 63) rfl rfl rfl ?_
      refine wq_icmp_ne (tgt := 70) (q := 66) rfl rfl rfl (fun c63 => ?_) (fun c63 => ?_)
      · skip
        refine wq_aload_n (kk := 0) (q := 71) rfl rfl rfl ?_
        refine wq_iload_n (kk := 3) (q := 72) rfl rfl rfl ?_
        refine wq_iload_n (kk := 1) (q := 73) rfl rfl rfl ?_
        refine wq_callV (q := 76) (m' := m_Mo_firstOf) (R' := rm 4) (As := [_, _]) rfl rfl l_Mo_301 vm_Mo_firstOf rfl rfl rfl (Or.inl ⟨rfl, Nat.le_of_ble_eq_true rfl⟩) (Nat.le_of_ble_eq_true rfl) (Nat.le_of_ble_eq_true rfl) (Nat.le_refl _) (Nat.le_refl _) (Nat.le_of_ble_eq_true rfl) (Mo_firstOf_ok N a t b h1 r hM hG) rfl ?_
        rintro rv h1 r ⟨f, rfl, rfl, rfl, hF⟩ -
        exact Mo_pairF N t b a f ht hb a0 (by omega) X h h1 r x4 hf hM hG hP (Or.inr ⟨c63, hG.1, by decide, hF⟩) (fun h2 y4 f2 m2 g2 p2 => ih _ (by omega) (a + 1) h2 y4 rfl (by omega) (by omega) f2 m2 g2 p2)
      · skip
        refine wq_iconst (n := -1) (q := 67) rfl rfl rfl ?_
        refine wq_goto (tgt := 76) rfl rfl ?_
        exact Mo_pairF N t b a (-1) ht hb a0 (by omega) X h h1 r x4 hf hM hG hP (Or.inl ⟨c63, rfl⟩) (fun h2 y4 f2 m2 g2 p2 => ih _ (by omega) (a + 1) h2 y4 rfl (by omega) (by omega) f2 m2 g2 p2)
/-- the pairs are laid -/
def prD (N : mN) (t : Int) (h : mH) : Prop := prI N t (nS N) 0 h
set_option maxRecDepth 100000 in
set_option maxHeartbeats 1000000 in
theorem Mo_pairB (N : mN) (t : Int) (ht : isT t) (h : mH) (r : mR) : ∀ (M : Nat) (b : Int) (h1 : mH) (x3 x4 : Option mV), (nS N - b).toNat = M → 0 ≤ b → b ≤ nS N → f64 [28, 40, 41] paC h h1 → isM h1 N → prI N t b 0 h1 → (match x3 with | some (.inr (.inl _)) => false | _ => true) = true → WP (true, rm 7) m_Mo_laysPairs (rt m_Mo_laysPairs (rm 7) (fun rv h2 r2 => rv = none ∧ r2 = r ∧ f64 [28, 40, 41] paC h h2 ∧ prD N t h2)) 34 [some (vR 64), some (vI t), some (vI b), x3, x4] [] h1 r (0, 0) := by
  intro M
  induction M using Nat.strongRecOn with
  | ind M ih =>
    intro b h1 x3 x4 hN b0 b1 hf hM hP p3
    have hS := hM.1.2.1
    have e1 := hM.2.2.1
    refine wq_iload_n (kk := 2) (q := 35) rfl rfl rfl ?_
    refine wq_aload_n (kk := 0) (q := 36) rfl rfl rfl ?_
    refine wq_getF (q := 39) f_Mo_17 rfl rfl (Nat.le_of_ble_eq_true rfl) rfl rfl rfl ?_
    refine wq_iconst (n := 1) (q := 40) rfl rfl rfl ?_
    refine wq_iald (q := 41) rfl (Or.inl ⟨rfl, Nat.le_of_ble_eq_true rfl⟩) rfl rfl (by first | omega | (simp [hup]; omega)) (by first | omega | (simp [hup]; omega)) ?_
    refine wq_icmp_ge (tgt := 200) (q := 44) rfl rfl rfl (fun c41 => ?_) (fun c41 => ?_)
    · skip
      have eb : b = nS N := by omega
      subst eb
      exact wq_vret rfl rfl (Nat.le_refl _) (Nat.le_refl _) ⟨rfl, rfl, hf, hP⟩
    · skip
      refine wq_aload_n (kk := 0) (q := 45) rfl rfl rfl ?_
      refine wq_iload_n (kk := 2) (q := 46) rfl rfl rfl ?_
      refine wq_callV (q := 49) (m' := m_Mo_laysGoal) (R' := rm 6) (As := [_]) rfl rfl l_Mo_298 vm_Mo_laysGoal rfl rfl rfl (Or.inl ⟨rfl, Nat.le_of_ble_eq_true rfl⟩) (Nat.le_of_ble_eq_true rfl) (Nat.le_of_ble_eq_true rfl) (Nat.le_refl _) (Nat.le_refl _) (Nat.le_of_ble_eq_true rfl) (Mo_laysGoal_ok N b h1 r hM) rfl ?_
      rintro rv h2 r ⟨rfl, rfl, f2, hG⟩ -
      have hM2 := isM_f hM f2.1 (by decide)
      have hP2 := prI_f hP (f2.2 40 (by decide)) (f2.2 41 (by decide)) (f2.1 85 (by decide))
      have f3 : f64 [28, 40, 41] paC h h2 := hf.tr f2 (by decide) (by decide)
      refine wq_iconst (n := 0) (q := 50) rfl rfl rfl ?_
      refine wq_istore_n (kk := 3) (q := 51) rfl rfl (Nat.le_of_ble_eq_true rfl) rfl ?_
      refine Mo_pairA N t b ht ⟨b0, by omega⟩ _ h r (fun h3 y4 y3 f4 m3 p3' q3 => ?_) _ 0 h2 _ rfl (by omega) hS.1 f3 hM2 hG hP2
      refine wq_iinc (i := 2) (n := 1) (q := 197) rfl rfl rfl (Nat.le_of_ble_eq_true rfl) rfl (by omega) (by omega) ?_
      refine wq_goto (tgt := 34) rfl rfl ?_
      exact ih _ (by omega) (b + 1) h3 _ _ rfl (by omega) (by omega) f4 m3 p3' q3
set_option maxRecDepth 100000 in
set_option maxHeartbeats 1000000 in
theorem Mo_pairZ (N : mN) (t : Int) (ht : isT t) (h : mH) (r : mR) : ∀ (M : Nat) (s : Int) (h1 : mH), (10 - s).toNat = M → 0 ≤ s → s ≤ 10 → f64 [28, 40, 41] paC h h1 → isM h1 N → (∀ x, 0 ≤ x → x < s → h1 85 x = 0) → h1 64 40 = 0 → h1 64 41 = -2 → WP (true, rm 7) m_Mo_laysPairs (rt m_Mo_laysPairs (rm 7) (fun rv h2 r2 => rv = none ∧ r2 = r ∧ f64 [28, 40, 41] paC h h2 ∧ prD N t h2)) 13 [some (vR 64), some (vI t), some (vI s), none, none] [] h1 r (0, 0) := by
  intro M
  induction M using Nat.strongRecOn with
  | ind M ih =>
    intro s h1 hN s0 s1 hf hM hz e40 e41
    have hS := hM.1.2.1
    refine wq_iload_n (kk := 2) (q := 14) rfl rfl rfl ?_
    refine wq_bipush (n := 10) (q := 16) rfl rfl rfl ?_
    refine wq_icmp_ge (tgt := 32) (q := 19) rfl rfl rfl (fun c16 => ?_) (fun c16 => ?_)
    · skip
      refine wq_iconst (n := 0) (q := 33) rfl rfl rfl ?_
      refine wq_istore_n (kk := 2) (q := 34) rfl rfl (Nat.le_of_ble_eq_true rfl) rfl ?_
      have z : ∀ (x : Int → Int), sm x (0 : Int).toNat = 0 := fun _ => rfl
      refine Mo_pairB N t ht h r _ 0 h1 none none rfl (by omega) hS.1 hf hM ⟨?_, ⟨Or.inl e41, by omega, fun x y q x0 x1 y0 => ?_⟩, fun s s0 s1 => ?_, fun s s0 s1 => hz s (by omega) (by omega), fun y x y0 x0 x1 q => ?_, fun s s0 s1 => ?_, by omega⟩ rfl
      · rw [e40, z, z]; rfl
      · unfold prQ at q; omega
      · rw [hz s s0 (by omega), z, z]; rfl
      · unfold prQ at q; omega
      · rw [hz s s0 (by omega)]; omega
    · skip
      refine wq_aload_n (kk := 0) (q := 20) rfl rfl rfl ?_
      refine wq_getF (q := 23) f_Mo_75 rfl rfl (Nat.le_of_ble_eq_true rfl) rfl rfl rfl ?_
      refine wq_iload_n (kk := 2) (q := 24) rfl rfl rfl ?_
      refine wq_iconst (n := 0) (q := 25) rfl rfl rfl ?_
      refine wq_iast (q := 26) rfl (Or.inl ⟨rfl, Nat.le_of_ble_eq_true rfl⟩) rfl rfl (by first | omega | (simp [hup]; omega)) (by first | omega | (simp [hup]; omega)) ?_
      refine wq_iinc (i := 2) (n := 1) (q := 29) rfl rfl rfl (Nat.le_of_ble_eq_true rfl) rfl (by first | omega | (simp [hup]; omega)) (by first | omega | (simp [hup]; omega)) ?_
      refine wq_goto (tgt := 13) rfl rfl ?_
      refine ih _ (by omega) (s + 1) _ rfl (by omega) (by omega) (hf.uc (by decide) (by decide)) (isM_f hM (S := [85]) (fr.rf.up (by decide)) (by decide)) (fun x x0 x1 => ?_) (by rw [hup_i (by decide)]; exact e40) (by rw [hup_i (by decide)]; exact e41)
      by_cases e : x = s
      · subst e; rw [hup_s]
      · rw [hup_j e]; exact hz x x0 (by omega)
set_option maxRecDepth 100000 in
set_option maxHeartbeats 1000000 in
theorem Mo_laysPairs_ok (N : mN) (t : Int) (ht : isT t) (h : mH) (r : mR) (hM : isM h N) : Meets true (rm 7) m_Mo_laysPairs [vR 64, vI t] h r (fun rv h2 r2 => rv = none ∧ r2 = r ∧ f64 [28, 40, 41] paC h h2 ∧ prD N t h2) := by
  refine ⟨ok_Mo_laysPairs, Nat.le_of_ble_eq_true rfl, ?_⟩
  refine wq_aload_n (kk := 0) (q := 1) rfl rfl rfl ?_
  refine wq_iconst (n := 0) (q := 2) rfl rfl rfl ?_
  refine wq_putI (kz := 40) (q := 5) rfl f_Mo_357 rfl rfl rfl (Or.inl ⟨rfl, Nat.le_of_ble_eq_true rfl⟩) rfl rfl ?_
  refine wq_aload_n (kk := 0) (q := 6) rfl rfl rfl ?_
  refine wq_bipush (n := -2) (q := 8) rfl rfl rfl ?_
  refine wq_putI (kz := 41) (q := 11) rfl f_Mo_360 rfl rfl rfl (Or.inl ⟨rfl, Nat.le_of_ble_eq_true rfl⟩) rfl rfl ?_
  refine wq_iconst (n := 0) (q := 12) rfl rfl rfl ?_
  refine wq_istore_n (kk := 2) (q := 13) rfl rfl (Nat.le_of_ble_eq_true rfl) rfl ?_
  exact Mo_pairZ N t ht h r _ 0 _ rfl (by omega) (by omega) ((f64.rf.up (by decide) (by decide)).up (by decide) (by decide)) (isM_f hM (S := [64]) ((fr.rf.up (by decide)).up (by decide)) (by decide)) (fun x x0 x1 => by omega) (by rw [hup_j (by decide), hup_s]) hup_s

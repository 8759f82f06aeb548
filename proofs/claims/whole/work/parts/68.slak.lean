/-! a departure that doesn't run, or leaves later -/
theorem mN_eta (N : mN) : (nN N, nS N, lv N, ar N, frm N, dst N, ln N, rn N, gp N, pt N) = N := rfl
theorem nRun_back (N : mN) (d v : Int) : nRun (nRun N d v) d (rn N d) = N := by
  show (nN N, nS N, lv N, ar N, frm N, dst N, ln N, (fun x => if x = d then rn N d else if x = d then v else rn N x), gp N, pt N) = N
  have e : (fun x => if x = d then rn N d else if x = d then v else rn N x) = rn N := by
    funext x
    by_cases h : x = d
    · rw [if_pos h, h]
    · rw [if_neg h, if_neg h]
  rw [e]
theorem nLate_0 (N : mN) (d : Int) : nLate N d 0 = N := by
  show (nN N, nS N, (fun x => if x = d then lv N x + 0 else lv N x), (fun x => if x = d then ar N x + 0 else ar N x), frm N, dst N, ln N, rn N, gp N, pt N) = N
  have e1 : (fun x => if x = d then lv N x + 0 else lv N x) = lv N := by funext x; split <;> omega
  have e2 : (fun x => if x = d then ar N x + 0 else ar N x) = ar N := by funext x; split <;> omega
  rw [e1, e2]
theorem nLate_s (N : mN) (d k : Int) : nLate (nLate N d k) d 1 = nLate N d (k + 1) := by
  show (nN N, nS N, (fun x => if x = d then (if x = d then lv N x + k else lv N x) + 1 else (if x = d then lv N x + k else lv N x)), (fun x => if x = d then (if x = d then ar N x + k else ar N x) + 1 else (if x = d then ar N x + k else ar N x)), frm N, dst N, ln N, rn N, gp N, pt N) = (nN N, nS N, (fun x => if x = d then lv N x + (k + 1) else lv N x), (fun x => if x = d then ar N x + (k + 1) else ar N x), frm N, dst N, ln N, rn N, gp N, pt N)
  have e1 : (fun x => if x = d then (if x = d then lv N x + k else lv N x) + 1 else (if x = d then lv N x + k else lv N x)) = (fun x => if x = d then lv N x + (k + 1) else lv N x) := by funext x; split <;> omega
  have e2 : (fun x => if x = d then (if x = d then ar N x + k else ar N x) + 1 else (if x = d then ar N x + k else ar N x)) = (fun x => if x = d then ar N x + (k + 1) else ar N x) := by funext x; split <;> omega
  rw [e1, e2]
theorem nRun_0 {N : mN} {d : Int} {e : Int} (h : rn (nRun N d 0) e = 1) : e ≠ d ∧ rn N e = 1 := by
  have h' : (if e = d then 0 else rn N e) = 1 := h
  split at h'
  · omega
  · rename_i z; exact ⟨z, h'⟩
theorem sn_late {N : mN} (hV : NV N) {d k : Int} (hV' : NV (nLate N d k)) (a t b : Int) : sn (nLate N d k) a t b ≤ sn (nRun N d 0) a t b := by
  by_cases hab : a = b
  · subst hab; rw [sn_a, sn_a]; exact Int.le_refl _
  have l : ∀ x, x ≠ d → lv (nLate N d k) x = lv N x := fun x hx => if_neg hx
  have r : ∀ x, x ≠ d → ar (nLate N d k) x = ar N x := fun x hx => if_neg hx
  have hc : ∀ x, Cau (nRun N d 0) a t x → x ≠ d → Cau (nLate N d k) a t x := fun x hx => hx (fun x => x ≠ d → Cau (nLate N d k) a t x) ⟨fun y y1 y2 y3 y4 => (Cau.clo _ a t).1 y y1 y2 (by rw [l y y4]; exact y3), fun e y e1 e2 e3 e4 e5 e6 e7 => by
    have hne := nRun_0 e2
    refine (Cau.clo _ a t).2 e y e1 hne.2 (e3 hne.1) ?_ e5 e6
    unfold J at e4 ⊢
    rw [l y e7, r e hne.1]
    exact e4⟩
  refine sn_le (nRun_V hV (Or.inl rfl)) hV' hab (fun e he => ?_)
  have hne := nRun_0 he.2.1
  exact ⟨e, ⟨he.1, hne.2, hc e he.2.2.1 hne.1, he.2.2.2⟩, by rw [r e hne.1]; exact Int.le_refl _⟩
/-- how much later a departure may leave -/
def Sla (N : mN) (a b t d v : Int) : Prop := (sn N a t b = 1000000 ∧ v = -2) ∨ (sn N a t b ≠ 1000000 ∧ (0 ≤ v ∧ v ≤ 99) ∧ (∀ k, 1 ≤ k → k ≤ v → sn (nLate N d k) a t b ≤ sn N a t b) ∧ (v = 99 ∨ sn N a t b < sn (nLate N d (v + 1)) a t b))
theorem Sla.uniq {N : mN} {a b t d v w : Int} (h : Sla N a b t d v) (h' : Sla N a b t d w) : v = w := by
  rcases h with h | ⟨h0, h1, h2, h3⟩ <;> rcases h' with h' | ⟨k0, k1, k2, k3⟩
  · omega
  · exact absurd h.1 k0
  · exact absurd h'.1 h0
  · by_cases e : v < w
    · have := k2 (v + 1) (by omega) (by omega)
      omega
    · by_cases e2 : w < v
      · have := h2 (w + 1) (by omega) (by omega)
        omega
      · omega
/-! a departure that every soonest way rides, put off: what is ridden ahead of it and behind it stays -/
theorem nRun_same {N : mN} {d : Int} (h : rn N d = 0) : nRun N d 0 = N := by
  show (nN N, nS N, lv N, ar N, frm N, dst N, ln N, (fun x => if x = d then 0 else rn N x), gp N, pt N) = N
  have e : (fun x => if x = d then 0 else rn N x) = rn N := by
    funext x
    by_cases hx : x = d
    · rw [if_pos hx, hx, h]
    · rw [if_neg hx]
  rw [e]
theorem Cau.off {N : mN} {d k a t x : Int} (h : Cau (nRun N d 0) a t x) (hx : x ≠ d) : Cau (nLate N d k) a t x := by
  have l : ∀ x, x ≠ d → lv (nLate N d k) x = lv N x := fun x hx => if_neg hx
  have r : ∀ x, x ≠ d → ar (nLate N d k) x = ar N x := fun x hx => if_neg hx
  exact h (fun x => x ≠ d → Cau (nLate N d k) a t x) ⟨fun y y1 y2 y3 y4 => (Cau.clo _ a t).1 y y1 y2 (by rw [l y y4]; exact y3), fun e y e1 e2 e3 e4 e5 e6 e7 => by
    have hne := nRun_0 e2
    refine (Cau.clo _ a t).2 e y e1 hne.2 (e3 hne.1) ?_ e5 e6
    unfold J at e4 ⊢
    rw [l y e7, r e hne.1]
    exact e4⟩ hx
theorem J_late {N : mN} {d k x y : Int} (hx : x ≠ d) (hy : y ≠ d) : J (nLate N d k) x y ↔ J (nRun N d 0) x y := by
  have l : lv (nLate N d k) y = lv N y := if_neg hy
  have r : ar (nLate N d k) x = ar N x := if_neg hx
  unfold J
  rw [l, r]
  exact Iff.rfl
theorem nRun_1 {N : mN} {d e : Int} (he : e ≠ d) (h : rn N e = 1) : rn (nRun N d 0) e = 1 := by
  show (if e = d then 0 else rn N e) = 1
  rw [if_neg he]; exact h
/-- whether one can ride d, by what was caught without it; whether one who rides d is at b by y, by labels without it -/
def cR (M : mN) (c : mF) (d a t : Int) : Prop := (frm M d = a ∧ t ≤ lv M d) ∨ ∃ e, dp M e ∧ c e = 1 ∧ rn M e = 1 ∧ dst M e = frm M d ∧ J M e d
def gT (M : mN) (E : mF) (d b y : Int) : Prop := (dst M d = b ∧ ar M d ≤ y) ∨ (dst M d ≠ b ∧ ∃ e, dp M e ∧ frm M e = dst M d ∧ E e ≤ y ∧ J M d e)
theorem slak_A {N : mN} {d k a t : Int} (hV' : NV (nLate N d k)) : ∀ (m : Nat) (x : Int), (lv (nLate N d k) x).toNat = m → lv (nLate N d k) x < lv (nLate N d k) d → Cau (nLate N d k) a t x → Cau (nRun N d 0) a t x := by
  intro m
  induction m using Nat.strongRecOn with
  | ind m ih =>
    intro x hm hx hc
    obtain ⟨hdx, hi⟩ := hc.inv
    have xd : x ≠ d := fun z => by rw [z] at hx; omega
    have lx : lv (nLate N d k) x = lv N x := if_neg xd
    rcases hi with ⟨z1, z2⟩ | ⟨e, e1, e2, e3, e4, e5⟩
    · exact (Cau.clo _ a t).1 x hdx z1 (by rw [lx] at z2; exact z2)
    · have lt := J.lt hV' e1 e4
      have v := hV'.2.2.1 e e1
      have ed : e ≠ d := fun z => by rw [z] at lt; omega
      exact (Cau.clo _ a t).2 e x e1 (nRun_1 ed e2) (ih _ (by omega) e rfl (by omega) e3) ((J_late ed xd).1 e4) hdx e5
theorem ar_lab {N : mN} (hV : NV N) {b B : Int} {e t l x : mF} (h : Lab N b B e t l x) : ∀ (m : Nat) (y : Int), dp N y → rn N y = 1 → e y ≠ B → (1501 - lv N y).toNat = m → ar N y ≤ e y := by
  intro m
  induction m using Nat.strongRecOn with
  | ind m im =>
    intro y hy hry hey hm
    have hvy := hV.2.2.1 y hy
    by_cases hby : dst N y = b
    · have := (h y hy hry).1 hby; omega
    · rcases (h y hy hry).2 hby with ⟨-, w, -⟩ | ⟨w, -, w1, -, w3, -⟩
      · exact absurd w hey
      · have := J.lt hV hy w1.2.2.1
        have hvw := hV.2.2.1 w w1.1
        have hw1 := w1.2.2.1.1
        have := im _ (by omega) w w1.1 w1.2.1 w1.2.2.2.2 rfl
        omega
theorem slak_B {N : mN} {d k a t b y : Int} {c e u l x : mF} (hV : NV N) (hV' : NV (nLate N d k)) (hab : a ≠ b) (hy : y < sn (nRun N d 0) a t b) (hy2 : y ≤ 1999) (hC : Ct (nRun N d 0) a t c) (hL : Lab (nRun N d 0) b 1000000 e u l x) : ∀ (m : Nat) (f : Int), (lv (nLate N d k) f).toNat = m → f ≠ d → rn N f = 1 → Cau (nLate N d k) a t f → e f ≤ y → Cau (nLate N d k) a t d ∧ gT (nLate (nRun N d 0) d k) e d b y := by
  have hV0 : NV (nRun N d 0) := nRun_V hV (Or.inl rfl)
  intro m
  induction m using Nat.strongRecOn with
  | ind m ih =>
    intro f hm fd hrf hc fe
    obtain ⟨hdf, hi⟩ := hc.inv
    have hdf0 : dp (nRun N d 0) f := hdf
    have lf : lv (nLate N d k) f = lv N f := if_neg fd
    have r0 := nRun_1 fd hrf
    have eB : e f ≠ 1000000 := by omega
    have af : ar N f ≤ e f := ar_lab hV0 hL _ f hdf0 r0 eB rfl
    have vf := hV.2.2.1 f hdf
    rcases hi with ⟨z1, z2⟩ | ⟨g, g1, g2, g3, g4, g5⟩
    · exfalso
      have hcf : Cau (nRun N d 0) a t f := (Cau.clo _ a t).1 f hdf z1 (by rw [lf] at z2; exact z2)
      obtain ⟨w, w1, w2, w3, w4, w5⟩ := Soon.forth hV0 (show (1700 : Int) < 1000000 by omega) hL hC _ f hdf0 r0 ((hC.cau hV0 hdf0).2 hcf) eB rfl
      have := (sn_v hV0 hab (t := t)).2 w ⟨w1, w2, (hC.cau hV0 w1).1 w3, w4⟩
      omega
    · have lt := J.lt hV' g1 g4
      have vg := hV'.2.2.1 g g1
      by_cases gd : g = d
      · refine ⟨gd ▸ g3, ?_⟩
        rw [gd] at g4 g5
        by_cases db : dst N d = b
        · refine Or.inl ⟨db, ?_⟩
          show ar (nLate N d k) d ≤ y
          have := g4.1
          omega
        · exact Or.inr ⟨db, f, hdf, g5, fe, g4⟩
      · have hJ := (J_late gd fd).1 g4
        have gr := nRun_1 gd g2
        have key : e g ≤ e f := by
          by_cases db : dst N g = b
          · have z : e g = ar N g := ((hL g g1 gr).1 db).1
            have z1 : 0 ≤ lv N f - ar N g := hJ.1
            omega
          · rcases (hL g g1 gr).2 db with ⟨w, -⟩ | ⟨w, -, w1, -, w3, -, -, w6⟩
            · exact absurd ⟨hdf0, r0, hJ, g5, eB⟩ (w f trivial)
            · by_cases hwf : f = w
              · rw [w3, hwf]; exact Int.le_refl _
              · have := w6 f trivial ⟨hdf0, r0, hJ, g5, eB⟩ hwf
                unfold kl at this
                omega
        exact ih _ (by omega) g rfl gd g2 g3 (by omega)
theorem slak_F {N : mN} {d k a t b : Int} {e u l x : mF} (hV : NV N) (hL : Lab (nRun N d 0) b 1000000 e u l x) : ∀ (m : Nat) (f : Int), (1501 - lv N f).toNat = m → dp N f → rn (nRun N d 0) f = 1 → Cau (nLate N d k) a t f → e f ≠ 1000000 → ∃ g, Rd (nLate N d k) a t b g ∧ ar (nLate N d k) g = e f := by
  have hV0 : NV (nRun N d 0) := nRun_V hV (Or.inl rfl)
  intro m
  induction m using Nat.strongRecOn with
  | ind m ih =>
    intro f hm hf hr hc he
    have fn := nRun_0 hr
    have af : ar (nLate N d k) f = ar N f := if_neg fn.1
    have vf := hV.2.2.1 f hf
    by_cases hb : dst N f = b
    · have z : e f = ar N f := ((hL f hf hr).1 hb).1
      exact ⟨f, ⟨hf, fn.2, hc, hb⟩, by rw [af]; exact z.symm⟩
    · rcases (hL f hf hr).2 hb with ⟨-, w, -⟩ | ⟨w, -, w1, -, w3, -⟩
      · exact absurd w he
      · have wn := nRun_0 w1.2.1
        have lt : lv N f < lv N w := J.lt hV0 hf w1.2.2.1
        have vw := hV.2.2.1 w w1.1
        have hcw : Cau (nLate N d k) a t w := (Cau.clo _ a t).2 f w hf fn.2 hc ((J_late fn.1 wn.1).2 w1.2.2.1) w1.1 w1.2.2.2.1
        obtain ⟨g, g1, g2⟩ := ih _ (by omega) w rfl w1.1 w1.2.1 hcw w1.2.2.2.2
        exact ⟨g, g1, by rw [g2, w3]⟩
theorem slak_iff {N : mN} {d k a t b y : Int} {c e u l x : mF} (hV : NV N) (hV' : NV (nLate N d k)) (hd : dp N d) (hab : a ≠ b) (hr : rn N d = 1) (hy : y < sn (nRun N d 0) a t b) (hy2 : y ≤ 1999) (hC : Ct (nRun N d 0) a t c) (hL : Lab (nRun N d 0) b 1000000 e u l x) (hE : ∀ z, dp N z → rn (nRun N d 0) z ≠ 1 → e z = 1000000) : sn (nLate N d k) a t b ≤ y ↔ cR (nLate (nRun N d 0) d k) c d a t ∧ gT (nLate (nRun N d 0) d k) e d b y := by
  have hV0 : NV (nRun N d 0) := nRun_V hV (Or.inl rfl)
  have hr' : rn (nLate N d k) d = 1 := hr
  have hA : Cau (nLate N d k) a t d → cR (nLate (nRun N d 0) d k) c d a t := fun hc => by
    rcases hc.inv.2 with z | ⟨g, g1, g2, g3, g4, g5⟩
    · exact Or.inl z
    · have gd : g ≠ d := fun z => J.ne hV' g1 g4 z.symm
      have lt := J.lt hV' g1 g4
      have hc0 : Cau (nRun N d 0) a t g := slak_A hV' _ g rfl lt g3
      exact Or.inr ⟨g, g1, (hC.cau hV0 g1).2 hc0, nRun_1 gd g2, g5.symm, g4⟩
  constructor
  · intro hs
    rcases (sn_v hV' hab (t := t)).1 with z | ⟨f, f1, f2⟩
    · omega
    · by_cases fd : f = d
      · rw [fd] at f1 f2
        refine ⟨hA f1.2.2.1, Or.inl ⟨f1.2.2.2, ?_⟩⟩
        show ar (nLate N d k) d ≤ y
        omega
      · have af : ar (nLate N d k) f = ar N f := if_neg fd
        have ef : e f = ar N f := ((hL f f1.1 (nRun_1 fd f1.2.1)).1 f1.2.2.2).1
        obtain ⟨z1, z2⟩ := slak_B hV hV' hab hy hy2 hC hL _ f rfl fd f1.2.1 f1.2.2.1 (by omega)
        exact ⟨hA z1, z2⟩
  · rintro ⟨h1, h2⟩
    have hcd : Cau (nLate N d k) a t d := by
      rcases h1 with ⟨z1, z2⟩ | ⟨g, g1, g2, g3, g4, g5⟩
      · exact (Cau.clo _ a t).1 d hd z1 z2
      · have gn := nRun_0 (N := N) (d := d) (e := g) g3
        exact (Cau.clo _ a t).2 g d g1 gn.2 (((hC.cau hV0 g1).1 g2).off gn.1) g5 hd g4.symm
    rcases h2 with ⟨z1, z2⟩ | ⟨-, g, g1, g2, g3, g4⟩
    · have := (sn_v hV' hab (t := t)).2 d ⟨hd, hr', hcd, z1⟩
      have z2' : ar (nLate N d k) d ≤ y := z2
      omega
    · have rg : rn (nRun N d 0) g = 1 := by
        rcases (hV0.2.2.1 g g1).2.2.2.2 with q | q
        · have := hE g g1 (by omega); omega
        · exact q
      have hcg : Cau (nLate N d k) a t g := (Cau.clo _ a t).2 d g hd hr' hcd g4 g1 g2
      obtain ⟨f, f1, f2⟩ := slak_F hV hL _ g rfl g1 rg hcg (by omega)
      have := (sn_v hV' hab (t := t)).2 f f1
      omega
/-- what stands when its not running is felt -/
theorem slak_pre {N : mN} (hV : NV N) {a t b d e : Int} (hd : dp N d) (he : e = sn N a t b) (hf : e ≠ 1000000) (hne : sn (nRun N d 0) a t b ≠ e) : a ≠ b ∧ rn N d = 1 ∧ e < sn (nRun N d 0) a t b ∧ e ≤ 1700 := by
  have hab : a ≠ b := fun z => by
    subst z
    rw [sn_a] at he hne
    exact hne he.symm
  have h1 : rn N d = 1 := by
    rcases (hV.2.2.1 d hd).2.2.2.2 with z | z
    · rw [nRun_same z] at hne
      exact absurd he.symm hne
    · exact z
  have h2 := sn_late hV (d := d) (k := 0) (by rw [nLate_0]; exact hV) a t b
  rw [nLate_0] at h2
  have h3 := sn_b hV hab (t := t)
  exact ⟨hab, h1, by omega, by omega⟩
/-- groups, but for the order in them -/
def isH (h : mH) (N : mN) : Prop := (∀ s, 0 ≤ s → s < nS N → 0 ≤ h 37 s ∧ h 37 s ≤ h 37 (s + 1) ∧ h 37 (s + 1) ≤ nN N) ∧
  (∀ s p, 0 ≤ s → s < nS N → h 37 s ≤ p → p < h 37 (s + 1) → dp N (h 36 p) ∧ frm N (h 36 p) = s) ∧
  (∀ d, dp N d → ∃ p, h 37 (frm N d) ≤ p ∧ p < h 37 (frm N d + 1) ∧ h 36 p = d)
theorem isG.late {h : mH} {N : mN} (g : isG h N) (d k : Int) : isH h (nLate N d k) := ⟨g.1, g.2.1, g.2.2.1⟩

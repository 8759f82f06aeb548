/-! LABELS: for each departure that runs, how one goes on best with it to the spot b: when one arrives (e), changes (t), departures (l), the next one (x); B stands for never -/
def Cd (N : mN) (B : Int) (e : mF) (d f : Int) : Prop := dp N f ∧ rn N f = 1 ∧ J N d f ∧ frm N f = dst N d ∧ e f ≠ B
def kl (e1 t1 l1 x1 e2 t2 l2 x2 : Int) : Prop := e1 < e2 ∨ e1 = e2 ∧ (t1 < t2 ∨ t1 = t2 ∧ (l1 < l2 ∨ l1 = l2 ∧ x1 < x2))
def tn (N : mN) (d f : Int) : Int := if ln N d = ln N f then 0 else 1
theorem tn_b (N : mN) (d f : Int) : 0 ≤ tn N d f ∧ tn N d f ≤ 1 := by unfold tn; split <;> omega
theorem kl.trans {a1 a2 a3 a4 b1 b2 b3 b4 c1 c2 c3 c4 : Int} (h1 : kl a1 a2 a3 a4 b1 b2 b3 b4) (h2 : kl b1 b2 b3 b4 c1 c2 c3 c4) : kl a1 a2 a3 a4 c1 c2 c3 c4 := by unfold kl at *; omega
theorem kl.asym {a1 a2 a3 a4 b1 b2 b3 b4 : Int} (h1 : kl a1 a2 a3 a4 b1 b2 b3 b4) (h2 : kl b1 b2 b3 b4 a1 a2 a3 a4) : False := by unfold kl at *; omega
theorem kl.tot {a1 a2 a3 a4 b1 b2 b3 b4 : Int} (hne : a4 ≠ b4) (h1 : ¬ kl a1 a2 a3 a4 b1 b2 b3 b4) : kl b1 b2 b3 b4 a1 a2 a3 a4 := by unfold kl at *; omega
/-- the least of the candidates of which P is told -/
def Lm (N : mN) (B : Int) (e t l x : mF) (P : Int → Prop) (d : Int) : Prop :=
  ((∀ f, P f → ¬ Cd N B e d f) ∧ e d = B ∧ x d = -1) ∨
  ∃ f, P f ∧ Cd N B e d f ∧ x d = f ∧ e d = e f ∧ t d = t f + tn N d f ∧ l d = l f + 1 ∧ ∀ g, P g → Cd N B e d g → g ≠ f → kl (e f) (t f + tn N d f) (l f) f (e g) (t g + tn N d g) (l g) g
def LabAt (N : mN) (b B : Int) (e t l x : mF) (d : Int) : Prop :=
  (dst N d = b → e d = ar N d ∧ t d = 0 ∧ l d = 1 ∧ x d = -1) ∧ (dst N d ≠ b → Lm N B e t l x (fun _ => True) d)
def Lab (N : mN) (b B : Int) (e t l x : mF) : Prop := ∀ d, dp N d → rn N d = 1 → LabAt N b B e t l x d
theorem J.lt {N : mN} (hV : NV N) {d f : Int} (hd : dp N d) (h : J N d f) : lv N d < lv N f := by
  have h1 := (hV.2.2.1 d hd).2.2.2.1
  have h2 := h.1
  omega
theorem J.ne {N : mN} (hV : NV N) {d f : Int} (hd : dp N d) (h : J N d f) : f ≠ d := fun e => by
  have := J.lt hV hd h
  rw [e] at this
  omega
theorem Lm.congr {N : mN} {B : Int} {e t l x e' t' l' x' : mF} {P Q : Int → Prop} {d : Int} (hd : e' d = e d ∧ t' d = t d ∧ l' d = l d ∧ x' d = x d) (hf : ∀ f, dp N f → J N d f → e' f = e f ∧ t' f = t f ∧ l' f = l f) (hPQ : ∀ f, Cd N B e d f → (Q f ↔ P f)) (h : Lm N B e t l x P d) : Lm N B e' t' l' x' Q d := by
  have hC : ∀ f, Cd N B e' d f ↔ Cd N B e d f := fun f => by
    unfold Cd
    constructor
    · rintro ⟨a, b, c, q, z⟩
      exact ⟨a, b, c, q, by rw [← (hf f a c).1]; exact z⟩
    · rintro ⟨a, b, c, q, z⟩
      exact ⟨a, b, c, q, by rw [(hf f a c).1]; exact z⟩
  rcases h with ⟨h1, h2, h3⟩ | ⟨f, h0, h1, h2, h3, h4, h5, h6⟩
  · refine Or.inl ⟨fun f hq hc => h1 f ((hPQ f ((hC f).mp hc)).mp hq) ((hC f).mp hc), hd.1.trans h2, hd.2.2.2.trans h3⟩
  · have hj := hf f h1.1 h1.2.2.1
    refine Or.inr ⟨f, (hPQ f h1).mpr h0, (hC f).mpr h1, hd.2.2.2.trans h2, ?_, ?_, ?_, fun g hg hc hne => ?_⟩
    · rw [hd.1, h3, hj.1]
    · rw [hd.2.1, h4, hj.2.1]
    · rw [hd.2.2.1, h5, hj.2.2]
    · have hc' := (hC g).mp hc
      have hjg := hf g hc'.1 hc'.2.2.1
      rw [hj.1, hj.2.1, hj.2.2, hjg.1, hjg.2.1, hjg.2.2]
      exact h6 g ((hPQ g hc').mp hg) hc' hne
theorem LabAt.congr {N : mN} {b B : Int} {e t l x e' t' l' x' : mF} {d : Int} (hd : e' d = e d ∧ t' d = t d ∧ l' d = l d ∧ x' d = x d) (hf : ∀ f, dp N f → J N d f → e' f = e f ∧ t' f = t f ∧ l' f = l f) (h : LabAt N b B e t l x d) : LabAt N b B e' t' l' x' d :=
  ⟨fun z => by rw [hd.1, hd.2.1, hd.2.2.1, hd.2.2.2]; exact h.1 z, fun z => (h.2 z).congr hd hf (fun _ _ => Iff.rfl)⟩
/-- labels are what they are: two that are told so agree -/
theorem Lab.uniq {N : mN} (hV : NV N) {b B B' : Int} {e t l x e' t' l' x' : mF} (hB : 1700 < B) (hB' : 1700 < B') (h : Lab N b B e t l x) (h' : Lab N b B' e' t' l' x') :
    ∀ (k : Nat) (d : Int), dp N d → rn N d = 1 → (1501 - lv N d).toNat = k → (e d = B ∧ e' d = B' ∧ x d = -1 ∧ x' d = -1) ∨ (e d ≠ B ∧ e' d ≠ B' ∧ e' d = e d ∧ t' d = t d ∧ l' d = l d ∧ x' d = x d) := by
  intro k
  induction k using Nat.strongRecOn with
  | ind k ih =>
    intro d hd hr hk
    have hv := hV.2.2.1 d hd
    have H := h d hd hr
    have H' := h' d hd hr
    by_cases hb : dst N d = b
    · obtain ⟨a1, a2, a3, a4⟩ := H.1 hb
      obtain ⟨c1, c2, c3, c4⟩ := H'.1 hb
      exact Or.inr ⟨by omega, by omega, by omega, by omega, by omega, by omega⟩
    · have ihf : ∀ f, dp N f → rn N f = 1 → J N d f → (e f = B ∧ e' f = B' ∧ x f = -1 ∧ x' f = -1) ∨ (e f ≠ B ∧ e' f ≠ B' ∧ e' f = e f ∧ t' f = t f ∧ l' f = l f ∧ x' f = x f) := fun f hf hrf hj => by
        have := J.lt hV hd hj
        have hvf := hV.2.2.1 f hf
        exact ih _ (by omega) f hf hrf rfl
      have hC : ∀ f, Cd N B e d f → Cd N B' e' d f ∧ e' f = e f ∧ t' f = t f ∧ l' f = l f := fun f hc => by
        rcases ihf f hc.1 hc.2.1 hc.2.2.1 with z | z
        · exact absurd z.1 hc.2.2.2.2
        · exact ⟨⟨hc.1, hc.2.1, hc.2.2.1, hc.2.2.2.1, z.2.1⟩, z.2.2.1, z.2.2.2.1, z.2.2.2.2.1⟩
      have hC' : ∀ f, Cd N B' e' d f → Cd N B e d f := fun f hc => by
        rcases ihf f hc.1 hc.2.1 hc.2.2.1 with z | z
        · exact absurd z.2.1 hc.2.2.2.2
        · exact ⟨hc.1, hc.2.1, hc.2.2.1, hc.2.2.2.1, z.1⟩
      rcases H.2 hb with ⟨h1, h2, h3⟩ | ⟨f, -, h1, h2, h3, h4, h5, h6⟩
      · rcases H'.2 hb with ⟨g1, g2, g3⟩ | ⟨g, -, g1, -⟩
        · exact Or.inl ⟨h2, g2, h3, g3⟩
        · exact absurd (hC' g g1) (h1 g trivial)
      · rcases H'.2 hb with ⟨g1, g2, g3⟩ | ⟨g, -, g1, g2, g3, g4, g5, g6⟩
        · exact absurd (hC f h1).1 (g1 f trivial)
        · have hf := hC f h1
          have hg := hC g (hC' g g1)
          have hfg : f = g := by
            by_cases q : f = g
            · exact q
            · have k1 := h6 g trivial (hC' g g1) (fun z => q z.symm)
              have k2 := g6 f trivial hf.1 q
              rw [hf.2.1, hf.2.2.1, hf.2.2.2, hg.2.1, hg.2.2.1, hg.2.2.2] at k2
              exact absurd k2 (fun z => k1.asym z)
          subst hfg
          refine Or.inr ⟨by rw [h3]; exact h1.2.2.2.2, by rw [g3]; exact g1.2.2.2.2, ?_, ?_, ?_, ?_⟩
          · rw [g3, h3, hf.2.1]
          · rw [g4, h4, hf.2.2.1]
          · rw [g5, h5, hf.2.2.2]
          · rw [g2, h2]
theorem Lab.eq {N : mN} (hV : NV N) {b B B' : Int} {e t l x e' t' l' x' : mF} (hB : 1700 < B) (hB' : 1700 < B') (h : Lab N b B e t l x) (h' : Lab N b B' e' t' l' x') {d : Int} (hd : dp N d) (hr : rn N d = 1) : (e d = B ∧ e' d = B' ∧ x d = -1 ∧ x' d = -1) ∨ (e d ≠ B ∧ e' d ≠ B' ∧ e' d = e d ∧ t' d = t d ∧ l' d = l d ∧ x' d = x d) := Lab.uniq hV hB hB' h h' _ d hd hr rfl
/-- the first departure of the best way from a, ready at q -/
def Fc (N : mN) (B : Int) (e : mF) (a q d : Int) : Prop := dp N d ∧ rn N d = 1 ∧ frm N d = a ∧ q ≤ lv N d ∧ e d ≠ B
def kf (N : mN) (e t l : mF) (d g : Int) : Prop := e d < e g ∨ e d = e g ∧ (t d < t g ∨ t d = t g ∧ (lv N g < lv N d ∨ lv N g = lv N d ∧ (l d < l g ∨ l d = l g ∧ d < g)))
def Fs (N : mN) (B : Int) (e t l : mF) (a q : Int) (P : Int → Prop) (f : Int) : Prop := (f = -1 ∧ ∀ d, P d → ¬ Fc N B e a q d) ∨ (P f ∧ Fc N B e a q f ∧ ∀ g, P g → Fc N B e a q g → g ≠ f → kf N e t l f g)
theorem kf.asym {N : mN} {e t l : mF} {d g : Int} (h1 : kf N e t l d g) (h2 : kf N e t l g d) : False := by unfold kf at *; omega
theorem kf.trans {N : mN} {e t l : mF} {a b c : Int} (h1 : kf N e t l a b) (h2 : kf N e t l b c) : kf N e t l a c := by unfold kf at *; omega
theorem kf.tot {N : mN} {e t l : mF} {a b : Int} (hne : a ≠ b) (h1 : ¬ kf N e t l a b) : kf N e t l b a := by unfold kf at *; omega
theorem Fs.uniq {N : mN} (hV : NV N) {b B B' : Int} {e t l x e' t' l' x' : mF} (hB : 1700 < B) (hB' : 1700 < B') (h : Lab N b B e t l x) (h' : Lab N b B' e' t' l' x') {a q f f' : Int} (hf : Fs N B e t l a q (fun _ => True) f) (hf' : Fs N B' e' t' l' a q (fun _ => True) f') : f = f' := by
  have tr : ∀ d, Fc N B e a q d → Fc N B' e' a q d ∧ e' d = e d ∧ t' d = t d ∧ l' d = l d := fun d hd => by
    rcases Lab.eq hV hB hB' h h' hd.1 hd.2.1 with z | z
    · exact absurd z.1 hd.2.2.2.2
    · exact ⟨⟨hd.1, hd.2.1, hd.2.2.1, hd.2.2.2.1, z.2.1⟩, z.2.2.1, z.2.2.2.1, z.2.2.2.2.1⟩
  have tr' : ∀ d, Fc N B' e' a q d → Fc N B e a q d := fun d hd => by
    rcases Lab.eq hV hB hB' h h' hd.1 hd.2.1 with z | z
    · exact absurd z.2.1 hd.2.2.2.2
    · exact ⟨hd.1, hd.2.1, hd.2.2.1, hd.2.2.2.1, z.1⟩
  rcases hf with ⟨rfl, h1⟩ | ⟨-, h1, h2⟩
  · rcases hf' with ⟨rfl, -⟩ | ⟨-, g1, -⟩
    · rfl
    · exact absurd (tr' _ g1) (h1 _ trivial)
  · rcases hf' with ⟨rfl, g1⟩ | ⟨-, g1, g2⟩
    · exact absurd (tr f h1).1 (g1 f trivial)
    · by_cases z : f = f'
      · exact z
      · have k1 := h2 f' trivial (tr' _ g1) (fun q => z q.symm)
        have k2 := g2 f trivial (tr f h1).1 z
        have y := tr f h1
        have y' := tr f' (tr' _ g1)
        unfold kf at k1 k2
        rw [y.2.1, y.2.2.1, y.2.2.2, y'.2.1, y'.2.2.1, y'.2.2.2] at k2
        omega
/-- what flows forth comes where the labels lead -/
theorem Soon.back {N : mN} (hV : NV N) {a q b B : Int} {e t l x c : mF} (hB : 1700 < B) (h : Lab N b B e t l x) (hc : Ct N a q c) : ∀ (k : Nat) (d : Int), dp N d → rn N d = 1 → c d = 1 → e d ≠ B → (lv N d).toNat = k → ∃ f, Fc N B e a q f ∧ e f ≤ e d := by
  intro k
  induction k using Nat.strongRecOn with
  | ind k ih =>
    intro d hd hr hcd hed hk
    rcases (hc d hd).1.mp hcd with ⟨z1, z2⟩ | ⟨g, g1, g2, g3, g4, g5⟩
    · exact ⟨d, ⟨hd, hr, z1, z2, hed⟩, Int.le_refl _⟩
    · have hvg := hV.2.2.1 g g1
      have hlt := J.lt hV g1 g4
      have key : e g ≠ B ∧ e g ≤ e d := by
        by_cases hb : dst N g = b
        · have z := (h g g1 g2).1 hb
          have hg4 := g4.1
          have hvd := hV.2.2.1 d hd
          refine ⟨by omega, ?_⟩
          have : ar N d ≤ e d := by
            have : ∀ (m : Nat) (y : Int), dp N y → rn N y = 1 → e y ≠ B → (1501 - lv N y).toNat = m → ar N y ≤ e y := by
              intro m
              induction m using Nat.strongRecOn with
              | ind m im =>
                intro y hy hry hey hm
                have hvy := hV.2.2.1 y hy
                by_cases hby : dst N y = b
                · have := (h y hy hry).1 hby; omega
                · rcases (h y hy hry).2 hby with ⟨-, w, -⟩ | ⟨w, -, w1, -, w3, -⟩
                  · exact absurd w hey
                  · have := J.lt hV hy w1.2.2.1
                    have hvw := hV.2.2.1 w w1.1
                    have hw1 := w1.2.2.1.1
                    have := im _ (by omega) w w1.1 w1.2.1 w1.2.2.2.2 rfl
                    omega
            exact this _ d hd hr hed rfl
          omega
        · rcases (h g g1 g2).2 hb with ⟨w, -⟩ | ⟨w, -, w1, -, w3, -, -, w6⟩
          · exact absurd ⟨hd, hr, g4, g5, hed⟩ (w d trivial)
          · refine ⟨by rw [w3]; exact w1.2.2.2.2, ?_⟩
            rw [w3]
            by_cases hwd : d = w
            · rw [hwd]; exact Int.le_refl _
            · have := w6 d trivial ⟨hd, hr, g4, g5, hed⟩ hwd
              unfold kl at this
              omega
      obtain ⟨f, f1, f2⟩ := ih _ (by omega) g g1 g2 g3 key.1 rfl
      exact ⟨f, f1, by omega⟩
theorem Soon.forth {N : mN} (hV : NV N) {a q b B : Int} {e t l x c : mF} (hB : 1700 < B) (h : Lab N b B e t l x) (hc : Ct N a q c) : ∀ (k : Nat) (d : Int), dp N d → rn N d = 1 → c d = 1 → e d ≠ B → (1501 - lv N d).toNat = k → ∃ g, dp N g ∧ rn N g = 1 ∧ c g = 1 ∧ dst N g = b ∧ ar N g = e d := by
  intro k
  induction k using Nat.strongRecOn with
  | ind k ih =>
    intro d hd hr hcd hed hk
    have hvd := hV.2.2.1 d hd
    by_cases hb : dst N d = b
    · exact ⟨d, hd, hr, hcd, hb, ((h d hd hr).1 hb).1.symm⟩
    · rcases (h d hd hr).2 hb with ⟨-, w, -⟩ | ⟨w, -, w1, -, w3, -⟩
      · exact absurd w hed
      · have := J.lt hV hd w1.2.2.1
        have hvw := hV.2.2.1 w w1.1
        have hcw : c w = 1 := (hc w w1.1).1.mpr (Or.inr ⟨d, hd, hr, hcd, w1.2.2.1, w1.2.2.2.1⟩)
        obtain ⟨g, g1, g2, g3, g4, g5⟩ := ih _ (by omega) w w1.1 w1.2.1 hcw w1.2.2.2.2 rfl
        exact ⟨g, g1, g2, g3, g4, by rw [g5, w3]⟩
theorem Soon.best {N : mN} (hV : NV N) {a q b B f : Int} {e t l x so : mF} (hB : 1700 < B) (h : Lab N b B e t l x) (hs : Soon N a q so) (hb : 0 ≤ b ∧ b < nS N) (hab : b ≠ a) (hf : Fs N B e t l a q (fun _ => True) f) : (f = -1 ∧ so b = 1000000) ∨ (f ≠ -1 ∧ so b = e f ∧ e f ≤ 1700 ∧ 0 ≤ e f) := by
  obtain ⟨-, c, hc, hso⟩ := hs
  have hS := hso b hb.1 hb.2 hab
  have hbd : ∀ d, dp N d → rn N d = 1 → e d ≠ B → c d = 1 → e d ≤ 1700 ∧ 0 ≤ e d := fun d hd hr he hcd => by
    obtain ⟨g, g1, -, -, -, g5⟩ := Soon.forth hV hB h hc _ d hd hr hcd he rfl
    have := hV.2.2.1 g g1
    omega
  rcases hf with ⟨rfl, h1⟩ | ⟨-, h1, h2⟩
  · refine Or.inl ⟨rfl, ?_⟩
    rcases hS.1 with z | ⟨g, g1, g2, g3, g4, g5⟩
    · exact z
    · have hg := (h g g1 g2).1 g4
      have hvg := hV.2.2.1 g g1
      obtain ⟨y, y1, -⟩ := Soon.back hV hB h hc _ g g1 g2 g3 (by omega) rfl
      exact absurd y1 (h1 y trivial)
  · have hcf : c f = 1 := (hc f h1.1).1.mpr (Or.inl ⟨h1.2.2.1, h1.2.2.2.1⟩)
    have hd := hV.2.2.1 f h1.1
    have hb2 := hbd f h1.1 h1.2.1 h1.2.2.2.2 hcf
    obtain ⟨g, g1, g2, g3, g4, g5⟩ := Soon.forth hV hB h hc _ f h1.1 h1.2.1 hcf h1.2.2.2.2 rfl
    have le1 := hS.2 g g1 g2 g3 g4
    refine Or.inr ⟨by have := h1.1.1; omega, ?_, hb2⟩
    rcases hS.1 with z | ⟨y, y1, y2, y3, y4, y5⟩
    · omega
    · have hy := (h y y1 y2).1 y4
      have hvy := hV.2.2.1 y y1
      obtain ⟨w, w1, w2⟩ := Soon.back hV hB h hc _ y y1 y2 y3 (by omega) rfl
      have : e f ≤ e w := by
        by_cases q : w = f
        · rw [q]; exact Int.le_refl _
        · have := h2 w trivial w1 q
          unfold kf at this
          omega
      omega

/-! WAYS by labels of any kind (B stands for never) -/
def Bst (N : mN) (a b q : Int) (B : Int) (e t l x : mF) (f : Int) : Prop := Lab N b B e t l x ∧ 1700 < B ∧ Fs N B e t l a q (fun _ => True) f
theorem Lab.l1 {N : mN} (hV : NV N) {b B : Int} {e t l x : mF} (hB : 1700 < B) (h : Lab N b B e t l x) : ∀ (k : Nat) (d : Int), dp N d → rn N d = 1 → e d ≠ B → (1501 - lv N d).toNat = k → 1 ≤ l d ∧ 0 ≤ t d ∧ t d < l d ∧ ar N d ≤ e d ∧ e d ≤ 1700 := by
  intro k
  induction k using Nat.strongRecOn with
  | ind k ih =>
    intro d hd hr he hk
    have hv := hV.2.2.1 d hd
    by_cases hb : dst N d = b
    · obtain ⟨a1, a2, a3, -⟩ := (h d hd hr).1 hb
      exact ⟨by omega, by omega, by omega, by omega, by omega⟩
    · rcases (h d hd hr).2 hb with ⟨-, w, -⟩ | ⟨f, -, w1, -, w3, w4, w5, -⟩
      · exact absurd w he
      · have hlt := J.lt hV hd w1.2.2.1
        have hj := w1.2.2.1.1
        have hvf := hV.2.2.1 f w1.1
        have := ih _ (by omega) f w1.1 w1.2.1 w1.2.2.2.2 rfl
        have ht := tn_b N d f
        exact ⟨by omega, by omega, by omega, by omega, by omega⟩
theorem Lab.l2 {N : mN} (hV : NV N) {b B : Int} {e t l x : mF} (hB : 1700 < B) (h : Lab N b B e t l x) {d : Int} (hd : dp N d) (hr : rn N d = 1) (he : e d ≠ B) : 1 ≤ l d ∧ 0 ≤ t d ∧ t d < l d ∧ ar N d ≤ e d ∧ e d ≤ 1700 := Lab.l1 hV hB h _ d hd hr he rfl
theorem Lab.nx {N : mN} (hV : NV N) {b B : Int} {e t l x : mF} (hB : 1700 < B) (h : Lab N b B e t l x) {d : Int} (hd : dp N d) (hr : rn N d = 1) (he : e d ≠ B) : (x d = -1 ∧ l d = 1 ∧ dst N d = b) ∨ (Cd N B e d (x d) ∧ l (x d) = l d - 1 ∧ dst N d ≠ b ∧ e d = e (x d) ∧ t d = t (x d) + tn N d (x d)) := by
  have hL := h d hd hr
  by_cases hb : dst N d = b
  · obtain ⟨-, -, a3, a4⟩ := hL.1 hb
    exact Or.inl ⟨a4, a3, hb⟩
  · rcases hL.2 hb with ⟨-, w, -⟩ | ⟨f, -, w1, w2, w3, w4, w5, -⟩
    · exact absurd w he
    · rw [w2]
      exact Or.inr ⟨w1, by omega, hb, w3, w4⟩
theorem Lab.it {N : mN} (hV : NV N) {b B : Int} {e t l x : mF} (hB : 1700 < B) (h : Lab N b B e t l x) {f : Int} (hd : dp N f) (hr : rn N f = 1) (he : e f ≠ B) : ∀ k : Nat, (k : Int) < l f → dp N (itr x k f) ∧ rn N (itr x k f) = 1 ∧ e (itr x k f) = e f ∧ l (itr x k f) = l f - k := by
  intro k
  induction k with
  | zero => intro _; exact ⟨hd, hr, rfl, by show l f = _; omega⟩
  | succ k ih =>
    intro hk
    obtain ⟨a1, a2, a3, a4⟩ := ih (by omega)
    rcases Lab.nx hV hB h a1 a2 (by rw [a3]; exact he) with ⟨z1, z2, -⟩ | ⟨z1, z2, -, z3, -⟩
    · omega
    · exact ⟨z1.1, z1.2.1, by show e (x (itr x k f)) = _; rw [← z3, a3], by show l (x (itr x k f)) = _; omega⟩
theorem Lab.ie {N : mN} (hV : NV N) {b B : Int} {e t l x : mF} (hB : 1700 < B) (h : Lab N b B e t l x) {f : Int} (hd : dp N f) (hr : rn N f = 1) (he : e f ≠ B) (k : Nat) (hk : (k : Int) = l f) : itr x k f = -1 := by
  have hl := Lab.l2 hV hB h hd hr he
  obtain ⟨j, rfl⟩ : ∃ j, k = j + 1 := ⟨k - 1, by omega⟩
  obtain ⟨a1, a2, a3, a4⟩ := Lab.it hV hB h hd hr he j (by omega)
  show x (itr x j f) = -1
  rcases Lab.nx hV hB h a1 a2 (by rw [a3]; exact he) with ⟨z1, -⟩ | ⟨z1, z2, -⟩
  · exact z1
  · have := Lab.l2 hV hB h z1.1 z1.2.1 z1.2.2.2.2
    omega
/-- two tellings of one best way are the same way -/
theorem Bst.eq {N : mN} (hV : NV N) {a b q B B' : Int} {e t l x e' t' l' x' : mF} {f f' : Int} (h : Bst N a b q B e t l x f) (h' : Bst N a b q B' e' t' l' x' f') : f' = f ∧ (f ≠ -1 → Fc N B e a q f ∧ e' f = e f ∧ t' f = t f ∧ l' f = l f ∧ ∀ k : Nat, (k : Int) ≤ l f → itr x' k f = itr x k f) := by
  have hff : f = f' := Fs.uniq hV h.2.1 h'.2.1 h.1 h'.1 h.2.2 h'.2.2
  subst hff
  refine ⟨rfl, fun hne => ?_⟩
  have hc : Fc N B e a q f := h.2.2.elim (fun z => absurd z.1 hne) (fun z => z.2.1)
  rcases Lab.eq hV h.2.1 h'.2.1 h.1 h'.1 hc.1 hc.2.1 with z | z
  · exact absurd z.1 hc.2.2.2.2
  · refine ⟨hc, z.2.2.1, z.2.2.2.1, z.2.2.2.2.1, fun k => ?_⟩
    induction k with
    | zero => intro _; rfl
    | succ k ih =>
      intro hk
      have hk' := ih (by omega)
      show x' (itr x' k f) = x (itr x k f)
      rw [hk']
      obtain ⟨a1, a2, a3, -⟩ := Lab.it hV h.2.1 h.1 hc.1 hc.2.1 hc.2.2.2.2 k (by omega)
      rcases Lab.eq hV h.2.1 h'.2.1 h.1 h'.1 a1 a2 with y | y
      · exact absurd (a3.symm.trans y.1) hc.2.2.2.2
      · exact y.2.2.2.2.2
/-- sums -/
def sm (f : Int → Int) : Nat → Int
  | 0 => 0
  | k + 1 => sm f k + f k
theorem sm_congr {f g : Int → Int} : ∀ {k : Nat}, (∀ d : Int, 0 ≤ d → d < k → f d = g d) → sm f k = sm g k
  | 0, _ => rfl
  | k + 1, h => by unfold sm; rw [sm_congr (k := k) (fun d h0 h1 => h d h0 (by omega)), h k (by omega) (by omega)]
theorem sm_s {f : Int → Int} {d : Int} (h0 : 0 ≤ d) : sm f (d + 1).toNat = sm f d.toNat + f d := by
  have e : (d + 1).toNat = d.toNat + 1 := by omega
  have e2 : ((d.toNat : Nat) : Int) = d := by omega
  rw [e, sm, e2]
theorem sm_b {f : Int → Int} {c : Int} (hc : 0 ≤ c) : ∀ {k : Nat}, (∀ d : Int, 0 ≤ d → d < k → -c ≤ f d ∧ f d ≤ c) → -(c * k) ≤ sm f k ∧ sm f k ≤ c * k
  | 0, _ => by unfold sm; simp
  | k + 1, h => by
    have ih := sm_b hc (f := f) (k := k) (fun d h0 h1 => h d h0 (by omega))
    have := h k (by omega) (by omega)
    have e : c * ((k + 1 : Nat) : Int) = c * k + c := by rw [Int.natCast_add, Int.mul_add]; simp
    unfold sm
    rw [e]
    omega
/-- what one waits between departures; how often one changes at s -/
def idl (N : mN) (x : mF) (f n : Int) : Int := sm (fun k => lv N (itr x (k.toNat + 1) f) - ar N (itr x k.toNat f)) n.toNat
def tcn (N : mN) (x : mF) (f n s : Int) : Int := cn (fun k => decide (ln N (itr x k.toNat f) ≠ ln N (itr x (k.toNat + 1) f)) && decide (frm N (itr x (k.toNat + 1) f) = s)) n.toNat
theorem Bst.idle {N : mN} (hV : NV N) {a b q B B' : Int} {e t l x e' t' l' x' : mF} {f f' : Int} (h : Bst N a b q B e t l x f) (h' : Bst N a b q B' e' t' l' x' f') (hne : f ≠ -1) : idl N x' f' (l' f' - 1) = idl N x f (l f - 1) ∧ ∀ s, tcn N x' f' (l' f' - 1) s = tcn N x f (l f - 1) s := by
  obtain ⟨rfl, h2⟩ := Bst.eq hV h h'
  obtain ⟨hc, -, -, hl, hi⟩ := h2 hne
  rw [hl]
  refine ⟨?_, fun s => ?_⟩
  · exact sm_congr (fun d h0 h1 => by rw [hi _ (by omega), hi _ (by omega)])
  · unfold tcn
    exact cn_congr (fun d h0 h1 => by rw [hi _ (by omega), hi _ (by omega)])

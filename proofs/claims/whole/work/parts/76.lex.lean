/-! TEXTS: runs, tokens, words, names, as functions of the text T, its length n and a place p -/
def run (f : Int → Bool) : Nat → Int → Int
  | 0, i => i
  | k + 1, i => if f i then run f k (i + 1) else i
/-- the first place from i on, ahead of n, where f doesn't hold; else n -/
def rE (f : Int → Bool) (n i : Int) : Int := run f (n - i).toNat i
theorem rE_y {f : Int → Bool} {n i : Int} (h : i < n) (hf : f i = true) : rE f n (i + 1) = rE f n i := by
  unfold rE
  have e : (n - i).toNat = (n - (i + 1)).toNat + 1 := by omega
  rw [e]
  show _ = if f i then run f (n - (i + 1)).toNat (i + 1) else i
  rw [if_pos hf]
theorem rE_n {f : Int → Bool} {n i : Int} (h : n ≤ i ∨ f i = false) : rE f n i = i := by
  unfold rE
  cases hk : (n - i).toNat with
  | zero => rfl
  | succ k =>
    show (if f i then run f k (i + 1) else i) = i
    rcases h with h | h
    · omega
    · rw [h]; rfl
theorem run_s {f : Int → Bool} : ∀ (k : Nat) (i : Int), i ≤ run f k i ∧ run f k i ≤ i + k ∧ (∀ j, i ≤ j → j < run f k i → f j = true) ∧ (run f k i < i + k → f (run f k i) = false)
  | 0, i => by
    show i ≤ i ∧ i ≤ i + ((0 : Nat) : Int) ∧ _ ∧ _
    refine ⟨Int.le_refl _, by omega, fun j h0 h1 => ?_, fun h => ?_⟩
    · have : j < i := h1; omega
    · have : i < i + ((0 : Nat) : Int) := h; omega
  | k + 1, i => by
    by_cases e : f i = true
    · have r : run f (k + 1) i = run f k (i + 1) := by show (if f i then run f k (i + 1) else i) = _; rw [if_pos e]
      rw [r]
      obtain ⟨h1, h2, h3, h4⟩ := run_s (f := f) k (i + 1)
      refine ⟨by omega, by omega, fun j j0 j1 => ?_, fun h => h4 (by omega)⟩
      by_cases ej : j = i
      · rw [ej]; exact e
      · exact h3 j (by omega) j1
    · have r : run f (k + 1) i = i := by show (if f i then run f k (i + 1) else i) = _; rw [if_neg e]
      rw [r]
      exact ⟨Int.le_refl _, by omega, fun j j0 j1 => by omega, fun _ => by simpa using e⟩
theorem rE_s {f : Int → Bool} {n i : Int} (h : i ≤ n) : i ≤ rE f n i ∧ rE f n i ≤ n ∧ (∀ j, i ≤ j → j < rE f n i → f j = true) ∧ (rE f n i < n → f (rE f n i) = false) := by
  obtain ⟨h1, h2, h3, h4⟩ := run_s (f := f) (n - i).toNat i
  exact ⟨h1, by unfold rE; omega, h3, fun z => h4 (by unfold rE at z; omega)⟩
theorem rE_c {f g : Int → Bool} {n i : Int} (h : ∀ j, i ≤ j → j < n → f j = g j) : rE f n i = rE g n i := by
  have : ∀ (k : Nat) (i : Int), (∀ j, i ≤ j → j < i + k → f j = g j) → run f k i = run g k i := by
    intro k
    induction k with
    | zero => intro i _; rfl
    | succ k ih =>
      intro i h
      show (if f i then run f k (i + 1) else i) = (if g i then run g k (i + 1) else i)
      rw [h i (by omega) (by omega), ih (i + 1) (fun j j0 j1 => h j (by omega) (by omega))]
  unfold rE
  exact this _ i (fun j j0 j1 => h j j0 (by omega))
def bSp (T : mF) (i : Int) : Bool := decide (T i = 32)
def bLt (T : mF) (i : Int) : Bool := decide (97 ≤ T i ∧ T i ≤ 122)
def bDg (T : mF) (i : Int) : Bool := decide (48 ≤ T i ∧ T i ≤ 57)
/-- where the token begins -/
def tS (T : mF) (n p : Int) : Int := rE (bSp T) n p
def eAt (T : mF) (n s : Int) : Int := if n ≤ s then s else if T s = 59 then s + 1 else if bLt T s then rE (bLt T) n s else if bDg T s then rE (bDg T) n s else s
def kAt (T : mF) (n s : Int) : Int := if n ≤ s then 4 else if T s = 59 then 3 else if bLt T s then (if rE (bLt T) n s - s ≤ 6 then 1 else 5) else if bDg T s then (if rE (bDg T) n s - s ≤ 4 then 2 else 5) else 5
/-- its end, its kind: 1 a WORD, 2 a WHOLE, 3 a semicolon, 4 the end, 5 none -/
def tE (T : mF) (n p : Int) : Int := eAt T n (tS T n p)
def tK (T : mF) (n p : Int) : Int := kAt T n (tS T n p)
/-- digits of base B -/
def cB (B o : Int) (T : mF) (s : Int) : Nat → Int
  | 0 => 0
  | L + 1 => B * cB B o T s L + (T (s + L) - o)
def tC (B o : Int) (T : mF) (n p : Int) : Int := cB B o T (tS T n p) (tE T n p - tS T n p).toNat
/-- its letters to the base 27, to the base 32; its number -/
def c27 (T : mF) (n p : Int) : Int := tC 27 96 T n p
def c32 (T : mF) (n p : Int) : Int := tC 32 96 T n p
def c10 (T : mF) (n p : Int) : Int := tC 10 48 T n p
def Wd (T : mF) (n p : Int) (j : Nat) : Prop := tK T n p = 1 ∧ tE T n p - tS T n p = sLen j ∧ ∀ x : Int, 0 ≤ x → x < sLen j → T (tS T n p + x) = sCh j x
def Nm (T : mF) (n p : Int) : Prop := tK T n p = 1 ∧ ¬ Wd T n p 0 ∧ ¬ Wd T n p 1 ∧ ¬ Wd T n p 2 ∧ ¬ Wd T n p 3
theorem cB_s {B o s i : Int} {T : mF} (h : s ≤ i) : cB B o T s (i + 1 - s).toNat = B * cB B o T s (i - s).toNat + (T i - o) := by
  have e : (i + 1 - s).toNat = (i - s).toNat + 1 := by omega
  have e2 : s + ((i - s).toNat : Nat) = i := by omega
  rw [e]
  show B * cB B o T s (i - s).toNat + (T (s + ((i - s).toNat : Nat)) - o) = _
  rw [e2]
theorem tS_s {T : mF} {n p : Int} (h : p ≤ n) : p ≤ tS T n p ∧ tS T n p ≤ n := ⟨(rE_s h).1, (rE_s h).2.1⟩
theorem tE_s {T : mF} {n p : Int} (h : p ≤ n) : tS T n p ≤ tE T n p ∧ tE T n p ≤ n := by
  have hs := tS_s (T := T) h
  have h1 := rE_s (f := bLt T) hs.2
  have h2 := rE_s (f := bDg T) hs.2
  unfold tE eAt
  split
  · omega
  · split
    · omega
    · split
      · omega
      · split <;> omega
theorem tk_w {T : mF} {n p : Int} (hp : p ≤ n) (h : tK T n p = 1) : tE T n p = rE (bLt T) n (tS T n p) ∧ tS T n p < tE T n p ∧ tE T n p - tS T n p ≤ 6 ∧ ∀ j, tS T n p ≤ j → j < tE T n p → 97 ≤ T j ∧ T j ≤ 122 := by
  have hs := tS_s (T := T) hp
  have h1 := rE_s (f := bLt T) hs.2
  unfold tK kAt at h
  unfold tE eAt
  split at h
  · omega
  · rename_i c1
    rw [if_neg c1]
    split at h
    · omega
    · rename_i c2
      rw [if_neg c2]
      split at h
      · rename_i c3
        rw [if_pos c3]
        split at h
        · rename_i c4
          refine ⟨rfl, ?_, c4, fun j j0 j1 => ?_⟩
          · have := rE_y (f := bLt T) (n := n) (i := tS T n p) (by omega) c3
            have := (rE_s (f := bLt T) (n := n) (i := tS T n p + 1) (by omega)).1
            omega
          · have := h1.2.2.1 j j0 j1
            simpa [bLt] using this
        · omega
      · split at h
        · split at h <;> omega
        · omega
theorem tk_d {T : mF} {n p : Int} (hp : p ≤ n) (h : tK T n p = 2) : tE T n p = rE (bDg T) n (tS T n p) ∧ tS T n p < tE T n p ∧ tE T n p - tS T n p ≤ 4 ∧ ∀ j, tS T n p ≤ j → j < tE T n p → 48 ≤ T j ∧ T j ≤ 57 := by
  have hs := tS_s (T := T) hp
  have h1 := rE_s (f := bDg T) hs.2
  unfold tK kAt at h
  unfold tE eAt
  split at h
  · omega
  · rename_i c1
    rw [if_neg c1]
    split at h
    · omega
    · rename_i c2
      rw [if_neg c2]
      split at h
      · split at h <;> omega
      · rename_i c3
        rw [if_neg c3]
        split at h
        · rename_i c4
          rw [if_pos c4]
          split at h
          · rename_i c5
            refine ⟨rfl, ?_, c5, fun j j0 j1 => ?_⟩
            · have := rE_y (f := bDg T) (n := n) (i := tS T n p) (by omega) c4
              have := (rE_s (f := bDg T) (n := n) (i := tS T n p + 1) (by omega)).1
              omega
            · have := h1.2.2.1 j j0 j1
              simpa [bDg] using this
          · omega
        · omega
theorem tk_3 {T : mF} {n p : Int} (h : tK T n p = 3) : tS T n p < n ∧ tE T n p = tS T n p + 1 := by
  unfold tK kAt at h
  unfold tE eAt
  split at h
  · omega
  · rename_i c1
    rw [if_neg c1]
    split at h
    · rename_i c2
      rw [if_pos c2]
      exact ⟨by omega, rfl⟩
    · split at h
      · split at h <;> omega
      · split at h
        · split at h <;> omega
        · omega
/-- codes: two words have one code to one base if they have one to the other -/
theorem cB_b {B : Int} (hB : 1 ≤ B) {T : mF} {s : Int} : ∀ {L : Nat}, (∀ j : Int, s ≤ j → j < s + L → 97 ≤ T j ∧ T j ≤ 122) → 0 ≤ cB B 96 T s L ∧ (0 < L → 1 ≤ cB B 96 T s L)
  | 0, _ => ⟨Int.le_refl _, fun h => by omega⟩
  | L + 1, h => by
    have ih := (cB_b hB (T := T) (s := s) (L := L) (fun j j0 j1 => h j j0 (by omega))).1
    have hl := h (s + L) (by omega) (by omega)
    have hm := Int.mul_nonneg (show 0 ≤ B by omega) ih
    show 0 ≤ B * cB B 96 T s L + (T (s + L) - 96) ∧ (0 < L + 1 → 1 ≤ B * cB B 96 T s L + (T (s + L) - 96))
    omega
theorem cB_iff {T : mF} {s s' : Int} : ∀ {L L' : Nat}, (∀ j : Int, s ≤ j → j < s + L → 97 ≤ T j ∧ T j ≤ 122) → (∀ j : Int, s' ≤ j → j < s' + L' → 97 ≤ T j ∧ T j ≤ 122) → (cB 27 96 T s L = cB 27 96 T s' L' ↔ cB 32 96 T s L = cB 32 96 T s' L')
  | 0, 0, _, _ => Iff.rfl.trans (by constructor <;> intro _ <;> rfl)
  | 0, L' + 1, _, h' => by
    have a := (cB_b (B := 27) (by omega) h').2 (by omega)
    have b := (cB_b (B := 32) (by omega) h').2 (by omega)
    have e1 : cB 27 96 T s 0 = 0 := rfl
    have e2 : cB 32 96 T s 0 = 0 := rfl
    omega
  | L + 1, 0, h, _ => by
    have a := (cB_b (B := 27) (by omega) h).2 (by omega)
    have b := (cB_b (B := 32) (by omega) h).2 (by omega)
    have e1 : cB 27 96 T s' 0 = 0 := rfl
    have e2 : cB 32 96 T s' 0 = 0 := rfl
    omega
  | L + 1, L' + 1, h, h' => by
    have hl := h (s + L) (by omega) (by omega)
    have hl' := h' (s' + L') (by omega) (by omega)
    have ih := cB_iff (T := T) (s := s) (s' := s') (L := L) (L' := L') (fun j j0 j1 => h j j0 (by omega)) (fun j j0 j1 => h' j j0 (by omega))
    show 27 * cB 27 96 T s L + (T (s + L) - 96) = 27 * cB 27 96 T s' L' + (T (s' + L') - 96) ↔ 32 * cB 32 96 T s L + (T (s + L) - 96) = 32 * cB 32 96 T s' L' + (T (s' + L') - 96)
    omega
theorem c_iff {T : mF} {n p q : Int} (hp : p ≤ n) (hq : q ≤ n) (h : tK T n p = 1) (h' : tK T n q = 1) : c27 T n p = c27 T n q ↔ c32 T n p = c32 T n q := by
  have a := tk_w hp h
  have b := tk_w hq h'
  exact cB_iff (fun j j0 j1 => a.2.2.2 j j0 (by omega)) (fun j j0 j1 => b.2.2.2 j j0 (by omega))
theorem cB_lt {B o : Int} (hB : 1 ≤ B) {T : mF} {s : Int} : ∀ {L : Nat}, (∀ j : Int, s ≤ j → j < s + L → 0 ≤ T j - o ∧ T j - o ≤ B - 1) → 0 ≤ cB B o T s L ∧ cB B o T s L ≤ B ^ L - 1
  | 0, _ => by
    show (0 : Int) ≤ 0 ∧ (0 : Int) ≤ B ^ 0 - 1
    rw [Int.pow_zero]; omega
  | L + 1, h => by
    have ih := cB_lt hB (T := T) (s := s) (L := L) (fun j j0 j1 => h j j0 (by omega))
    have hl := h (s + L) (by omega) (by omega)
    have hm := Int.mul_nonneg (show 0 ≤ B by omega) ih.1
    have hx := Int.mul_le_mul_of_nonneg_left ih.2 (show 0 ≤ B by omega)
    have e : B * (B ^ L - 1) = B ^ (L + 1) - B := by rw [Int.mul_sub, Int.mul_one, Int.pow_succ, Int.mul_comm]
    show 0 ≤ B * cB B o T s L + (T (s + L) - o) ∧ B * cB B o T s L + (T (s + L) - o) ≤ B ^ (L + 1) - 1
    omega
theorem pow_hi {L : Nat} (h : L ≤ 6) : (27 : Int) ^ L ≤ 387420489 ∧ (32 : Int) ^ L ≤ 1073741824 ∧ (10 : Int) ^ L ≤ 1000000 := by
  have : L = 0 ∨ L = 1 ∨ L = 2 ∨ L = 3 ∨ L = 4 ∨ L = 5 ∨ L = 6 := by omega
  rcases this with rfl | rfl | rfl | rfl | rfl | rfl | rfl <;> decide
theorem pow_lo {L : Nat} (h : L ≤ 5) : (27 : Int) ^ L ≤ 14348907 ∧ (32 : Int) ^ L ≤ 33554432 ∧ (10 : Int) ^ L ≤ 100000 := by
  have : L = 0 ∨ L = 1 ∨ L = 2 ∨ L = 3 ∨ L = 4 ∨ L = 5 := by omega
  rcases this with rfl | rfl | rfl | rfl | rfl | rfl <;> decide

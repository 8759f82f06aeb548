/-! what the walks of all methods share -/
abbrev rm (d : Nat) : Room := { frames := d, cells := 0, slots := 0, locals := 40 * d }
abbrev pI (x : Int) (h : mH) (r : mR) : mP := fun rv h' r' => rv = some (vI x) ∧ h' = h ∧ r' = r
abbrev pU (h : mH) (r : mR) : mP := fun rv h' r' => rv = none ∧ h' = h ∧ r' = r
noncomputable def bI (P : Prop) : Int := @ite Int P (Classical.propDecidable P) 1 0
theorem bI_t {P : Prop} (h : P) : bI P = 1 := by unfold bI; rw [if_pos h]
theorem bI_f {P : Prop} (h : ¬ P) : bI P = 0 := by unfold bI; rw [if_neg h]
theorem bI_z (P : Prop) : bI P = 0 ∨ bI P = 1 := (Classical.em P).elim (fun h => Or.inr (bI_t h)) (fun h => Or.inl (bI_f h))
theorem bI_c {P Q : Prop} (h : P ↔ Q) : bI P = bI Q := by rw [propext h]
theorem pC_t {P : Prop} {h : mH} {r : mR} (hp : P) : pI (bI P) h r (some (vI 1)) h r := by rw [bI_t hp]; exact ⟨rfl, rfl, rfl⟩
theorem pC_f {P : Prop} {h : mH} {r : mR} (hp : ¬ P) : pI (bI P) h r (some (vI 0)) h r := by rw [bI_f hp]; exact ⟨rfl, rfl, rfl⟩
section BS
variable {E : mE} {m : mM} {X : mX} {pc q : Nat} {ls : mL} {st : List mV} {h : mH} {r : mR} {u : mU}
theorem wq_bif_eq {P : Prop} [Decidable P] {off : Int} {tgt : Nat} (hd : dc m pc = some (.ifCond .eq off, 3)) (hq : pc + 3 = q) (ht : (pc : Int) + off = (tgt : Int)) (kt : ¬ P → WP E m X tgt ls st h r u) (kf : P → WP E m X q ls st h r u) : WP E m X pc ls (vI (if P then 1 else 0) :: st) h r u :=
  wq_if_eq hd hq ht (fun c => kt (fun p => by rw [if_pos p] at c; omega)) (fun c => kf (Classical.byContradiction fun p => c (if_neg p)))
theorem wq_bif_ne {P : Prop} [Decidable P] {off : Int} {tgt : Nat} (hd : dc m pc = some (.ifCond .ne off, 3)) (hq : pc + 3 = q) (ht : (pc : Int) + off = (tgt : Int)) (kt : P → WP E m X tgt ls st h r u) (kf : ¬ P → WP E m X q ls st h r u) : WP E m X pc ls (vI (if P then 1 else 0) :: st) h r u :=
  wq_if_ne hd hq ht (fun c => kt (Classical.byContradiction fun p => c (if_neg p))) (fun c => kf (fun p => by rw [if_pos p] at c; omega))
theorem wq_cif_eq {P : Prop} {off : Int} {tgt : Nat} (hd : dc m pc = some (.ifCond .eq off, 3)) (hq : pc + 3 = q) (ht : (pc : Int) + off = (tgt : Int)) (kt : ¬ P → WP E m X tgt ls st h r u) (kf : P → WP E m X q ls st h r u) : WP E m X pc ls (vI (bI P) :: st) h r u :=
  wq_if_eq hd hq ht (fun c => kt (fun p => by rw [bI_t p] at c; omega)) (fun c => kf (Classical.byContradiction fun p => c (bI_f p)))
theorem wq_cif_ne {P : Prop} {off : Int} {tgt : Nat} (hd : dc m pc = some (.ifCond .ne off, 3)) (hq : pc + 3 = q) (ht : (pc : Int) + off = (tgt : Int)) (kt : P → WP E m X tgt ls st h r u) (kf : ¬ P → WP E m X q ls st h r u) : WP E m X pc ls (vI (bI P) :: st) h r u :=
  wq_if_ne hd hq ht (fun c => kt (Classical.byContradiction fun p => c (bI_f p))) (fun c => kf (fun p => by rw [bI_t p] at c; omega))
theorem Meets.mono {g : Bool} {R : Room} {av : List mV} {post post' : mP} (hM : Meets g R m av h r post) (hp : ∀ rv h' r', post rv h' r' → post' rv h' r') : Meets g R m av h r post' :=
  ⟨hM.1, hM.2.1, hM.2.2.trans fun pc ls st h r u hx => WP.exit ⟨hx.1, hx.2.1, hx.2.2.imp (fun ⟨a, x, b, c, d⟩ => ⟨a, x, b, c, hp _ _ _ d⟩) (fun z => z.imp (fun ⟨a, b, c, d⟩ => ⟨a, b, c, hp _ _ _ d⟩) (fun ⟨a, x, b, c, d⟩ => ⟨a, x, b, c, hp _ _ _ d⟩))⟩⟩
end BS
theorem pB_t {P : Prop} [Decidable P] {h : mH} {r : mR} (hp : P) : pI (if P then 1 else 0) h r (some (vI 1)) h r := by rw [if_pos hp]; exact ⟨rfl, rfl, rfl⟩
theorem pB_f {P : Prop} [Decidable P] {h : mH} {r : mR} (hp : ¬ P) : pI (if P then 1 else 0) h r (some (vI 0)) h r := by rw [if_neg hp]; exact ⟨rfl, rfl, rfl⟩
abbrev pH (h' : mH) (r : mR) : mP := fun rv h1 r1 => rv = none ∧ h1 = h' ∧ r1 = r
/-- how many of 0 .. k-1 are so -/
def cn (f : Int → Bool) : Nat → Int
  | 0 => 0
  | k + 1 => cn f k + (if f k then 1 else 0)
theorem cn_b (f : Int → Bool) (k : Nat) : 0 ≤ cn f k ∧ cn f k ≤ k := by
  induction k with
  | zero => exact ⟨Int.le_refl _, Int.le_refl _⟩
  | succ k ih => unfold cn; split <;> omega
theorem cn_s {f : Int → Bool} {d : Int} (h0 : 0 ≤ d) : cn f (d + 1).toNat = cn f d.toNat + (if f d then 1 else 0) := by
  have e : (d + 1).toNat = d.toNat + 1 := by omega
  have e2 : ((d.toNat : Nat) : Int) = d := by omega
  rw [e, cn, e2]
theorem cn_t {f : Int → Bool} {d : Int} (h0 : 0 ≤ d) (hf : f d = true) : cn f (d + 1).toNat = cn f d.toNat + 1 := by rw [cn_s h0, hf]; rfl
theorem cn_f {f : Int → Bool} {d : Int} (h0 : 0 ≤ d) (hf : f d = false) : cn f (d + 1).toNat = cn f d.toNat + 0 := by rw [cn_s h0, hf]; rfl
theorem cn_congr {f g : Int → Bool} : ∀ {k : Nat}, (∀ d : Int, 0 ≤ d → d < k → f d = g d) → cn f k = cn g k
  | 0, _ => rfl
  | k + 1, h => by unfold cn; rw [cn_congr (k := k) (fun d h0 h1 => h d h0 (by omega)), h k (by omega) (by omega)]
theorem hup_s {h : mH} {i : Nat} {j v : Int} : hup h i j v i j = v := by simp [hup]
theorem hup_i {h : mH} {i a : Nat} {j v b : Int} (ha : ¬ a = i) : hup h i j v a b = h a b := by simp [hup, ha]
theorem hup_j {h : mH} {i a : Nat} {j v b : Int} (hb : ¬ b = j) : hup h i j v a b = h a b := by simp [hup, hb]
theorem k_math_i : Cond.initialized "java/lang/Math" ∈ t0_ws := tm 124 (by decide +kernel) rfl
theorem k_Re_26 : Cond.methodLink "LinkTimes$Reader" 26 Lib.Math.min.name ∈ t0_ws := tm 574 (by decide +kernel) rfl
theorem k_math_min_s : Cond.static Lib.Math.min.name ∈ t0_ws := tm 575 (by decide +kernel) rfl
theorem k_math_min : Cond.code Lib.Math.min.name Lib.Math.min.code 2 (some .int) ∈ t0_ws := tm 576 (by decide +kernel) rfl
theorem k_Re_152 : Cond.methodLink "LinkTimes$Reader" 152 Lib.Math.max.name ∈ t0_ws := tm 721 (by decide +kernel) rfl
theorem k_math_max_s : Cond.static Lib.Math.max.name ∈ t0_ws := tm 722 (by decide +kernel) rfl
theorem k_math_max : Cond.code Lib.Math.max.name Lib.Math.max.code 2 (some .int) ∈ t0_ws := tm 723 (by decide +kernel) rfl
theorem k_Se_79 : Cond.constant "LinkTimes$Search" 79 (Int32.ofInt 1000000) ∈ t0_ws := tm 841 (by decide +kernel) rfl
theorem k_Ba_38 : Cond.constant "LinkTimes$Bargains" 38 (Int32.ofInt 1000000) ∈ t0_ws := tm 915 (by decide +kernel) rfl
theorem k_Ba_86 : Cond.methodLink "LinkTimes$Bargains" 86 Lib.Math.min.name ∈ t0_ws := tm 926 (by decide +kernel) rfl
theorem k_Ba_95 : Cond.methodLink "LinkTimes$Bargains" 95 Lib.Math.max.name ∈ t0_ws := tm 935 (by decide +kernel) rfl
theorem k_St_38 : Cond.constant "LinkTimes$Steps" 38 (Int32.ofInt 1000000) ∈ t0_ws := tm 957 (by decide +kernel) rfl
theorem k_St_47 : Cond.methodLink "LinkTimes$Steps" 47 Lib.Math.min.name ∈ t0_ws := tm 962 (by decide +kernel) rfl
theorem k_Fl_31 : Cond.constant "LinkTimes$Flood" 31 (Int32.ofInt 1000000) ∈ t0_ws := tm 975 (by decide +kernel) rfl
theorem k_Fl_61 : Cond.methodLink "LinkTimes$Flood" 61 Lib.Math.min.name ∈ t0_ws := tm 980 (by decide +kernel) rfl
theorem k_Lt_257 : Cond.constant "LinkTimes" 257 (Int32.ofInt 1000000) ∈ t0_ws := tm 986 (by decide +kernel) rfl
theorem k_Lt_258 : Cond.methodLink "LinkTimes" 258 Lib.Math.max.name ∈ t0_ws := tm 991 (by decide +kernel) rfl
theorem k_Mo_144 : Cond.constantLong "LinkTimesModel" 144 (Int64.ofInt 32) ∈ t0_ws := tm 1466 (by decide +kernel) rfl
theorem k_Mo_146 : Cond.constantLong "LinkTimesModel" 146 (Int64.ofInt 96) ∈ t0_ws := tm 1467 (by decide +kernel) rfl

/-! switches; frames; cells set whole -/
theorem tab_n {P : Nat → Prop} {x lo : Int} : ∀ (j t : Nat), ([] : List Nat)[j]? = some t → x = lo + j → P t := fun j t h => by simp at h
theorem tab_c {P : Nat → Prop} {x lo : Int} {t : Nat} {l : List Nat} (h : x = lo → P t) (hr : ∀ (j s : Nat), l[j]? = some s → x = (lo + 1) + j → P s) : ∀ (j s : Nat), (t :: l)[j]? = some s → x = lo + j → P s := by
  intro j s hj hx
  cases j with
  | zero => cases hj; exact h (by omega)
  | succ j => exact hr j s (by simpa using hj) (by omega)
theorem wq_tabL {E : mE} {m : mM} {X : mX} {pc : Nat} {ls : mL} {st : List mV} {h : mH} {r : mR} {u : mU} {dflt lo hi : Int} {offs : Array Int} {len : Nat} {x : Int} {tg : List Nat} {td : Nat} (hd : dc m pc = some (.tableswitch dflt lo hi offs, len)) (ht : (pc : Int) + dflt = (td : Int)) (ho : (offs.toList.map fun o => (pc : Int) + o) = tg.map fun t : Nat => (t : Int))
    (kd : x < lo ∨ lo + tg.length ≤ x → WP E m X td ls st h r u) (ki : ∀ (j t : Nat), tg[j]? = some t → x = lo + j → WP E m X t ls st h r u) (hh : hi = lo + tg.length - 1 := by rfl) : WP E m X pc ls (vI x :: st) h r u := by
  refine wq_tab hd (fun c => ⟨td, ht, kd (by omega)⟩) (fun c1 c2 => ?_)
  have hlen : offs.toList.length = tg.length := by simpa using congrArg List.length ho
  have hlt : (x - lo).toNat < tg.length := by omega
  have h1 : offs[(x - lo).toNat]? = some (offs.toList[(x - lo).toNat]'(by omega)) := by
    rw [← Array.getElem?_toList]
    exact List.getElem?_eq_getElem (by omega)
  refine ⟨_, tg[(x - lo).toNat], h1, ?_, ki (x - lo).toNat _ (List.getElem?_eq_getElem hlt) (by omega)⟩
  have h2 := congrArg (fun l => l[(x - lo).toNat]?) ho
  simp only [List.getElem?_map] at h2
  rw [List.getElem?_eq_getElem (by omega), List.getElem?_eq_getElem hlt] at h2
  exact Option.some.inj h2
/-- only the cells of S have changed -/
def fr (S : List Nat) (h h' : mH) : Prop := ∀ i, i ∉ S → h' i = h i
theorem fr.rf {S : List Nat} {h : mH} : fr S h h := fun _ _ => rfl
theorem fr.up {S : List Nat} {h h' : mH} {i : Nat} {j v : Int} (hf : fr S h h') (hi : i ∈ S) : fr S h (hup h' i j v) := fun a ha => by
  have hne : ¬ a = i := fun e => ha (e ▸ hi)
  rw [hup_ne hne]
  exact hf a ha
theorem fr.trans {S T : List Nat} {h h' h'' : mH} (h1 : fr S h h') (h2 : fr T h' h'') (hT : ∀ i ∈ T, i ∈ S) : fr S h h'' := fun a ha => (h2 a (fun z => ha (hT a z))).trans (h1 a ha)
theorem fr.mono {S T : List Nat} {h h' : mH} (h1 : fr S h h') (hT : ∀ i ∈ S, i ∈ T) : fr T h h' := fun a ha => h1 a (fun z => ha (hT a z))
theorem fr.at {S : List Nat} {h h' : mH} (h1 : fr S h h') (i : Nat) (j : Int) (hi : i ∉ S) : h' i j = h i j := by rw [h1 i hi]

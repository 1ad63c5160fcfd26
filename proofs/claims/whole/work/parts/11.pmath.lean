/-! THE PILE, without a machine: lengths le 0 .. le (ct - 1), the uppermost last; which two are merged next; all that follows -/
def jn (le : Nat → Nat) (ct p : Nat) : Nat → Nat := shf (uN_up le p (le p + le (p + 1))) (p + 1) (ct - 1)
def lwP (le : Nat → Nat) (ct : Nat) : Nat := if 3 ≤ ct ∧ le (ct - 3) < le (ct - 1) then ct - 3 else ct - 2
def tFb (le : Nat → Nat) (ct : Nat) : Bool := decide ((3 ≤ ct ∧ le (ct - 3) ≤ le (ct - 2) + le (ct - 1)) ∨ (4 ≤ ct ∧ le (ct - 4) ≤ le (ct - 3) + le (ct - 2)))
theorem tFb_iff {le : Nat → Nat} {ct : Nat} : tFb le ct = true ↔ tFl le ct := by simp [tFb, tFl]
def nxP (le : Nat → Nat) (ct : Nat) : Option Nat := if 2 ≤ ct then (if tFb le ct = true then some (lwP le ct) else if le (ct - 2) ≤ le (ct - 1) then some (ct - 2) else none) else none
theorem lwP_in {le : Nat → Nat} {ct : Nat} (h : 2 ≤ ct) : lwP le ct + 1 < ct ∧ (lwP le ct = ct - 2 ∨ (lwP le ct = ct - 3 ∧ 3 ≤ ct)) := by
  unfold lwP
  split <;> omega
theorem nxP_in {le : Nat → Nat} {ct p : Nat} (h : nxP le ct = some p) : p + 1 < ct ∧ (p = ct - 2 ∨ (p = ct - 3 ∧ 3 ≤ ct)) := by
  unfold nxP at h
  by_cases h2 : 2 ≤ ct
  · rw [if_pos h2] at h
    have h3 := lwP_in (le := le) h2
    by_cases h4 : tFb le ct = true
    · rw [if_pos h4] at h
      have := Option.some.inj h
      subst this
      exact h3
    · rw [if_neg h4] at h
      by_cases h5 : le (ct - 2) ≤ le (ct - 1)
      · rw [if_pos h5] at h
        have := Option.some.inj h
        omega
      · rw [if_neg h5] at h
        cases h
  · rw [if_neg h2] at h
    cases h
theorem nxP_no {le : Nat → Nat} {ct : Nat} (h : nxP le ct = none) : ct < 2 ∨ (¬ tFl le ct ∧ le (ct - 1) < le (ct - 2)) := by
  unfold nxP at h
  by_cases h2 : 2 ≤ ct
  · rw [if_pos h2] at h
    by_cases h4 : tFb le ct = true
    · rw [if_pos h4] at h
      cases h
    · rw [if_neg h4] at h
      by_cases h5 : le (ct - 2) ≤ le (ct - 1)
      · rw [if_pos h5] at h
        cases h
      · exact Or.inr ⟨fun q => h4 (tFb_iff.mpr q), by omega⟩
  · exact Or.inl (by omega)
/-- the same decisions where the lengths are the same -/
def eqB (f g : Nat → Nat) (n : Nat) : Prop := ∀ j, j < n → f j = g j
theorem nxP_congr {le le' : Nat → Nat} {ct : Nat} (h : eqB le le' ct) : nxP le ct = nxP le' ct ∧ lwP le ct = lwP le' ct := by
  by_cases h2 : 2 ≤ ct
  · have e1 := h (ct - 1) (by omega)
    have e2 := h (ct - 2) (by omega)
    by_cases h3 : 3 ≤ ct
    · have e3 := h (ct - 3) (by omega)
      by_cases h4 : 4 ≤ ct
      · have e4 := h (ct - 4) (by omega)
        unfold nxP lwP tFb
        rw [e1, e2, e3, e4]
        exact ⟨rfl, rfl⟩
      · unfold nxP lwP tFb
        simp only [e1, e2, e3, h4, false_and]
        first | exact ⟨rfl, rfl⟩ | exact ⟨trivial, trivial⟩
    · unfold nxP lwP tFb
      simp only [e1, e2, h3, show ¬ 4 ≤ ct by omega, false_and]
      first | exact ⟨rfl, rfl⟩ | exact ⟨trivial, trivial⟩
  · unfold nxP lwP
    simp only [h2, show ¬ 3 ≤ ct by omega, false_and, if_false]
    first | exact ⟨rfl, rfl⟩ | exact ⟨trivial, trivial⟩
theorem jn_at {le : Nat → Nat} {ct p : Nat} (hp : p + 1 < ct) : (∀ j, j < p → jn le ct p j = le j) ∧ jn le ct p p = le p + le (p + 1) ∧ (∀ j, p < j → j < ct - 1 → jn le ct p j = le (j + 1)) := by
  refine ⟨fun j hj => ?_, ?_, fun j h1 h2 => ?_⟩
  · unfold jn shf
    rw [if_neg (by omega), up_n (by omega)]
  · unfold jn shf
    rw [if_neg (by omega), up_s]
  · unfold jn shf
    rw [if_pos (by omega), up_n (by omega)]
theorem jn_congr {le le' : Nat → Nat} {ct p : Nat} (hp : p + 1 < ct) (h : eqB le le' ct) : eqB (jn le ct p) (jn le' ct p) (ct - 1) := by
  obtain ⟨a1, a2, a3⟩ := jn_at (le := le) hp
  obtain ⟨b1, b2, b3⟩ := jn_at (le := le') hp
  intro j hj
  by_cases h1 : j < p
  · rw [a1 j h1, b1 j h1]; exact h j (by omega)
  · by_cases h2 : j = p
    · rw [h2, a2, b2, h p (by omega), h (p + 1) hp]
    · rw [a3 j (by omega) hj, b3 j (by omega) hj]; exact h (j + 1) (by omega)
/-- BROUGHT IN ORDER: the pile, its height, how often and how much was merged -/
def brg : Nat → (Nat → Nat) → Nat → Nat → (Nat → Nat) × Nat × Nat × Nat
  | 0, le, me, mp => (le, 0, me, mp)
  | ct + 1, le, me, mp => match nxP le (ct + 1) with
    | none => (le, ct + 1, me, mp)
    | some p => brg ct (jn le (ct + 1) p) (me + 1) (mp + (le p + le (p + 1)))
theorem brg_n {le : Nat → Nat} {ct me mp : Nat} (h : nxP le ct = none) : brg ct le me mp = (le, ct, me, mp) := by
  cases ct with
  | zero => rfl
  | succ c => unfold brg; rw [h]
theorem brg_s {le : Nat → Nat} {ct me mp p : Nat} (h : nxP le ct = some p) : brg ct le me mp = brg (ct - 1) (jn le ct p) (me + 1) (mp + (le p + le (p + 1))) := by
  cases ct with
  | zero => exact absurd h (by simp [nxP])
  | succ c =>
    conv => lhs; unfold brg
    rw [h]
    rfl
theorem brg_le : ∀ (ct : Nat) (le : Nat → Nat) (me mp : Nat), (brg ct le me mp).2.1 ≤ ct
  | 0, _, _, _ => Nat.le_refl 0
  | ct + 1, le, me, mp => by
    cases h : nxP le (ct + 1) with
    | none => rw [brg_n h]; exact Nat.le_refl _
    | some p => rw [brg_s h]; exact Nat.le_trans (brg_le ct _ _ _) (Nat.le_succ ct)
theorem brg_congr : ∀ (ct : Nat) (le le' : Nat → Nat) (me mp : Nat), eqB le le' ct → (brg ct le me mp).2 = (brg ct le' me mp).2 ∧ eqB (brg ct le me mp).1 (brg ct le' me mp).1 (brg ct le me mp).2.1
  | 0, le, le', me, mp, h => ⟨rfl, h⟩
  | ct + 1, le, le', me, mp, h => by
    have e := (nxP_congr h).1
    cases hn : nxP le (ct + 1) with
    | none => rw [brg_n hn, brg_n (e ▸ hn)]; exact ⟨rfl, h⟩
    | some p =>
      have hp := (nxP_in hn).1
      have e2 : nxP le' (ct + 1) = some p := e ▸ hn
      rw [brg_s hn, brg_s (le := le') e2, h p (by omega), h (p + 1) hp]
      exact brg_congr ct _ _ _ _ (jn_congr hp h)
/-- when the list is used up -/
def fnl : Nat → (Nat → Nat) → Nat → Nat → Nat × Nat
  | 0, _, me, mp => (me, mp)
  | 1, _, me, mp => (me, mp)
  | ct + 2, le, me, mp => fnl (ct + 1) (jn le (ct + 2) (lwP le (ct + 2))) (me + 1) (mp + (le (lwP le (ct + 2)) + le (lwP le (ct + 2) + 1)))
theorem fnl_n {le : Nat → Nat} {ct me mp : Nat} (h : ct < 2) : fnl ct le me mp = (me, mp) := by
  rcases (show ct = 0 ∨ ct = 1 by omega) with rfl | rfl <;> rfl
theorem fnl_s {le : Nat → Nat} {ct me mp : Nat} (h : 2 ≤ ct) : fnl ct le me mp = fnl (ct - 1) (jn le ct (lwP le ct)) (me + 1) (mp + (le (lwP le ct) + le (lwP le ct + 1))) := by
  obtain ⟨c, rfl⟩ : ∃ c, ct = c + 2 := ⟨ct - 2, by omega⟩
  rfl
theorem fnl_congr : ∀ (ct : Nat) (le le' : Nat → Nat) (me mp : Nat), eqB le le' ct → fnl ct le me mp = fnl ct le' me mp
  | 0, _, _, _, _, _ => rfl
  | 1, _, _, _, _, _ => rfl
  | ct + 2, le, le', me, mp, h => by
    have e := (nxP_congr h).2
    have hp := lwP_in (le := le) (show 2 ≤ ct + 2 by omega)
    rw [fnl_s (le := le) (by omega), fnl_s (le := le') (by omega), ← e, ← h _ hp.1, ← h (lwP le (ct + 2)) (by omega)]
    exact fnl_congr (ct + 1) _ _ _ _ (jn_congr hp.1 h)
/-- the stretches of the runs lie one behind the other, from 0 to e -/
def pC (st le : Nat → Nat) (ct e : Nat) : Prop := (∀ i, i + 1 < ct → st (i + 1) = st i + le i) ∧ (0 < ct → st 0 = 0 ∧ st (ct - 1) + le (ct - 1) = e) ∧ (∀ i, i < ct → 1 ≤ le i ∧ st i + le i ≤ e)
theorem shf_at {f : Nat → Nat} {a b : Nat} : (∀ j, j < a → shf f a b j = f j) ∧ (∀ j, a ≤ j → j < b → shf f a b j = f (j + 1)) := by
  refine ⟨fun j hj => ?_, fun j h1 h2 => ?_⟩
  · unfold shf
    rw [if_neg (by omega)]
  · unfold shf
    rw [if_pos ⟨h1, h2⟩]
theorem pC_jn {st le : Nat → Nat} {ct e p : Nat} (hp : p + 1 < ct) (h : pC st le ct e) : pC (shf st (p + 1) (ct - 1)) (jn le ct p) (ct - 1) e := by
  obtain ⟨h1, h2, h3⟩ := h
  obtain ⟨a1, a2, a3⟩ := jn_at (le := le) hp
  obtain ⟨b1, b2⟩ := shf_at (f := st) (a := p + 1) (b := ct - 1)
  refine ⟨fun i hi => ?_, fun h0 => ⟨?_, ?_⟩, fun i hi => ?_⟩
  · by_cases g1 : i < p
    · rw [b1 i (by omega), b1 (i + 1) (by omega), a1 i g1]; exact h1 i (by omega)
    · by_cases g2 : i = p
      · rw [g2, b2 (p + 1) (by omega) (by omega), b1 p (by omega), a2]
        have := h1 p (by omega)
        have := h1 (p + 1) (by omega)
        omega
      · rw [b2 (i + 1) (by omega) (by omega), b2 i (by omega) (by omega), a3 i (by omega) (by omega)]
        exact h1 (i + 1) (by omega)
  · rw [b1 0 (by omega)]; exact (h2 (by omega)).1
  · have h4 := (h2 (by omega)).2
    by_cases g2 : p = ct - 2
    · rw [show ct - 1 - 1 = p by omega, b1 p (by omega), a2]
      have := h1 p hp
      rw [show ct - 1 = p + 1 by omega] at h4
      omega
    · rw [b2 (ct - 1 - 1) (by omega) (by omega), a3 (ct - 1 - 1) (by omega) (by omega), show ct - 1 - 1 + 1 = ct - 1 by omega]
      exact h4
  · by_cases g1 : i < p
    · rw [b1 i (by omega), a1 i g1]; exact h3 i (by omega)
    · by_cases g2 : i = p
      · rw [g2, b1 p (by omega), a2]
        have := h1 p hp
        have := h3 p (by omega)
        have := h3 (p + 1) hp
        omega
      · rw [b2 i (by omega) (by omega), a3 i (by omega) (by omega)]; exact h3 (i + 1) (by omega)
theorem pC_push {st le : Nat → Nat} {ct e b : Nat} (h : pC st le ct e) (h0 : ct = 0 → e = 0) (hb : 1 ≤ b) : pC (uN_up st ct e) (uN_up le ct b) (ct + 1) (e + b) := by
  obtain ⟨h1, h2, h3⟩ := h
  refine ⟨fun i hi => ?_, fun _ => ⟨?_, ?_⟩, fun i hi => ?_⟩
  · rw [up_n (f := st) (show i ≠ ct by omega), up_n (f := le) (show i ≠ ct by omega)]
    by_cases g : i + 1 = ct
    · rw [g, up_s]
      have h4 := (h2 (by omega)).2
      rw [show ct - 1 = i by omega] at h4
      exact h4.symm
    · rw [up_n g]; exact h1 i (by omega)
  · by_cases g : ct = 0
    · rw [g, up_s]; exact h0 g
    · rw [up_n (show 0 ≠ ct by omega)]; exact (h2 (by omega)).1
  · rw [Nat.add_sub_cancel, up_s, up_s]
  · by_cases g : i = ct
    · rw [g, up_s, up_s]; exact ⟨hb, Nat.le_refl _⟩
    · rw [up_n g, up_n g]
      have := h3 i (by omega)
      omega
/-- the runs on the pile are sorted -/
def pS (f : Nat → Int64) (st le : Nat → Nat) (ct : Nat) : Prop := ∀ i, i < ct → so ky f (st i) (st i + le i)
theorem pC_mono {st le : Nat → Nat} {ct e : Nat} (h : pC st le ct e) : ∀ i j, i < j → j < ct → st i + le i ≤ st j := by
  intro i j h1 h2
  obtain ⟨d, rfl⟩ : ∃ d, j = i + 1 + d := ⟨j - (i + 1), by omega⟩
  clear h1
  induction d with
  | zero => exact Nat.le_of_eq (h.1 i h2).symm
  | succ d ih =>
    have := ih (by omega)
    have := h.1 (i + 1 + d) h2
    rw [show i + 1 + (d + 1) = i + 1 + d + 1 by omega]
    omega
theorem pS_jn {f g : Nat → Int64} {st le : Nat → Nat} {ct e p : Nat} (hp : p + 1 < ct) (hc : pC st le ct e) (hs : pS f st le ct) (hk : okp f g (st p) (st p + (le p + le (p + 1)))) : pS g (shf st (p + 1) (ct - 1)) (jn le ct p) (ct - 1) := by
  obtain ⟨a1, a2, a3⟩ := jn_at (le := le) hp
  obtain ⟨b1, b2⟩ := shf_at (f := st) (a := p + 1) (b := ct - 1)
  have hpp := hc.1 p hp
  intro i hi
  by_cases g1 : i < p
  · rw [b1 i (by omega), a1 i g1]
    have := pC_mono hc i p g1 (by omega)
    exact so_congr (fun j q1 q2 => (hk.1 j (Or.inl (by omega))).symm) (hs i (by omega))
  · by_cases g2 : i = p
    · rw [g2, b1 p (by omega), a2]
      exact hk.2.1
    · rw [b2 i (by omega) (by omega), a3 i (by omega) (by omega)]
      have h5 : st (p + 1) + le (p + 1) ≤ st (i + 1) := pC_mono hc (p + 1) (i + 1) (by omega) (by omega)
      exact so_congr (fun j q1 q2 => (hk.1 j (Or.inr (by omega))).symm) (hs (i + 1) (by omega))
theorem pS_push {f g : Nat → Int64} {st le : Nat → Nat} {ct e b : Nat} (hc : pC st le ct e) (hs : pS f st le ct) (hk : okp f g e (e + b)) : pS g (uN_up st ct e) (uN_up le ct b) (ct + 1) := by
  intro i hi
  by_cases h : i = ct
  · rw [h, up_s, up_s]; exact hk.2.1
  · rw [up_n h, up_n h]
    have := (hc.2.2 i (by omega)).2
    exact so_congr (fun j q1 q2 => (hk.1 j (Or.inl (by omega))).symm) (hs i (by omega))
/-- a heap that is high holds much: each is more than the two above it -/
def trp (le : Nat → Nat) (ct : Nat) : Prop := ∀ i, i + 2 < ct → le (i + 1) + le (i + 2) < le i
def tr2 (le : Nat → Nat) (ct : Nat) : Prop := ∀ i, i + 4 < ct → le (i + 1) + le (i + 2) < le i
theorem tr2_jn {le : Nat → Nat} {ct p : Nat} (hp : p + 1 < ct) (hq : p = ct - 2 ∨ (p = ct - 3 ∧ 3 ≤ ct)) (h : tr2 le ct) : tr2 (jn le ct p) (ct - 1) := by
  obtain ⟨a1, a2, a3⟩ := jn_at (le := le) hp
  intro i hi
  rw [a1 i (by omega), a1 (i + 1) (by omega), a1 (i + 2) (by omega)]
  exact h i (by omega)
theorem brg_trp : ∀ (ct : Nat) (le : Nat → Nat) (me mp : Nat), tr2 le ct → trp (brg ct le me mp).1 (brg ct le me mp).2.1
  | 0, le, me, mp, h => fun i hi => absurd hi (by simp [brg])
  | ct + 1, le, me, mp, h => by
    cases hn : nxP le (ct + 1) with
    | none =>
      rw [brg_n hn]
      intro i hi
      rcases nxP_no hn with q | ⟨q1, q2⟩
      · exact absurd hi (by simp only; omega)
      · have hi : i + 2 < ct + 1 := hi
        unfold tFl at q1
        by_cases g1 : i + 2 = ct
        · rw [show ct + 1 - 3 = i by omega, show ct + 1 - 2 = i + 1 by omega, show ct + 1 - 1 = i + 2 by omega] at q1
          show le (i + 1) + le (i + 2) < le i
          omega
        · by_cases g2 : i + 3 = ct
          · rw [show ct + 1 - 4 = i by omega, show ct + 1 - 3 = i + 1 by omega, show ct + 1 - 2 = i + 2 by omega] at q1
            show le (i + 1) + le (i + 2) < le i
            omega
          · exact h i (by omega)
    | some p =>
      have hp := nxP_in hn
      rw [brg_s hn]
      exact brg_trp ct _ _ _ (tr2_jn hp.1 hp.2 h)
theorem trp_big {le : Nat → Nat} {ct : Nat} (h : trp le ct) (h1 : ∀ i, i < ct → 1 ≤ le i) : ∀ k i, i + 2 * k < ct → 2 ^ k ≤ le i
  | 0, i, hi => h1 i hi
  | k + 1, i, hi => by
    have e1 := trp_big h h1 k (i + 1) (by omega)
    have e2 := trp_big h h1 k (i + 2) (by omega)
    have e3 := h i (by omega)
    rw [Nat.pow_succ]
    omega
theorem trp_ct {st le : Nat → Nat} {ct e : Nat} (h : trp le ct) (hc : pC st le ct e) (he : e ≤ 4096) : ct ≤ 26 := by
  by_cases hct : ct ≤ 26
  · exact hct
  · have h1 := trp_big h (fun i hi => (hc.2.2 i hi).1) 13 0 (by omega)
    have h2 := (hc.2.2 0 (by omega)).2
    omega
theorem tr2_push {le : Nat → Nat} {ct b : Nat} (h : trp le ct) : tr2 (uN_up le ct b) (ct + 1) := by
  intro i hi
  rw [up_n (show i ≠ ct by omega), up_n (show i + 1 ≠ ct by omega), up_n (show i + 2 ≠ ct by omega)]
  exact h i (by omega)
/-- what brg keeps -/
theorem brg_pC : ∀ (ct : Nat) (st le : Nat → Nat) (me mp e : Nat), pC st le ct e → ∃ st', pC st' (brg ct le me mp).1 (brg ct le me mp).2.1 e
  | 0, st, le, me, mp, e, h => ⟨st, h⟩
  | ct + 1, st, le, me, mp, e, h => by
    cases hn : nxP le (ct + 1) with
    | none => rw [brg_n hn]; exact ⟨st, h⟩
    | some p => rw [brg_s hn]; exact brg_pC ct _ _ _ _ e (pC_jn (nxP_in hn).1 h)
theorem brg_pos : ∀ (ct : Nat) (le : Nat → Nat) (me mp : Nat), 0 < ct → 0 < (brg ct le me mp).2.1
  | 0, _, _, _, h => absurd h (Nat.lt_irrefl 0)
  | ct + 1, le, me, mp, h => by
    cases hn : nxP le (ct + 1) with
    | none => rw [brg_n hn]; exact h
    | some p => rw [brg_s hn]; exact brg_pos ct _ _ _ (by have := (nxP_in hn).1; omega)
/-- THE RUNS, one behind the other: how many, how long, the pile that is left, how often and how much was merged, the height -/
def rsF (κ : Nat → Int) (n L a ru : Nat) (rl le : Nat → Nat) (ct me mp ht : Nat) : Nat × (Nat → Nat) × (Nat → Nat) × Nat × Nat × Nat × Nat :=
  if h : a < n then
    rsF κ n L (a + mkL κ a n L) (ru + 1) (uN_up rl ru (mkL κ a n L)) (brg (ct + 1) (uN_up le ct (mkL κ a n L)) me mp).1 (brg (ct + 1) (uN_up le ct (mkL κ a n L)) me mp).2.1 (brg (ct + 1) (uN_up le ct (mkL κ a n L)) me mp).2.2.1 (brg (ct + 1) (uN_up le ct (mkL κ a n L)) me mp).2.2.2 (max ht (ct + 1))
  else (ru, rl, le, ct, me, mp, ht)
termination_by n - a
decreasing_by
  have := (fnd_in κ h).1
  unfold mkL
  omega
theorem rsF_n {κ : Nat → Int} {n L a ru : Nat} {rl le : Nat → Nat} {ct me mp ht : Nat} (h : n ≤ a) : rsF κ n L a ru rl le ct me mp ht = (ru, rl, le, ct, me, mp, ht) := by rw [rsF, dif_neg (by omega)]
theorem rsF_s {κ : Nat → Int} {n L a ru : Nat} {rl le : Nat → Nat} {ct me mp ht : Nat} (h : a < n) : rsF κ n L a ru rl le ct me mp ht = rsF κ n L (a + mkL κ a n L) (ru + 1) (uN_up rl ru (mkL κ a n L)) (brg (ct + 1) (uN_up le ct (mkL κ a n L)) me mp).1 (brg (ct + 1) (uN_up le ct (mkL κ a n L)) me mp).2.1 (brg (ct + 1) (uN_up le ct (mkL κ a n L)) me mp).2.2.1 (brg (ct + 1) (uN_up le ct (mkL κ a n L)) me mp).2.2.2 (max ht (ct + 1)) := by rw [rsF, dif_pos h]
theorem mkL_in {κ : Nat → Int} {a n : Nat} (L : Nat) (h : a < n) : 1 ≤ mkL κ a n L ∧ a + mkL κ a n L ≤ n := by
  have := fnd_in κ h
  unfold mkL
  omega
theorem mkL_congr {κ κ' : Nat → Int} {a n L : Nat} (h : ∀ j, a ≤ j → j < n → κ j = κ' j) : mkL κ a n L = mkL κ' a n L := by
  unfold mkL
  rw [fnd_congr h]
theorem eqB_up {f g : Nat → Nat} {n x : Nat} (h : eqB f g n) : eqB (uN_up f n x) (uN_up g n x) (n + 1) := by
  intro j hj
  by_cases e : j = n
  · rw [e, up_s, up_s]
  · rw [up_n e, up_n e]; exact h j (by omega)
theorem rsF_congr {κ κ' : Nat → Int} {n L : Nat} (hκ : ∀ j, j < n → κ j = κ' j) : ∀ (d a ru : Nat) (rl rl' le le' : Nat → Nat) (ct me mp ht : Nat), n - a ≤ d → eqB rl rl' ru → eqB le le' ct →
    (rsF κ n L a ru rl le ct me mp ht).1 = (rsF κ' n L a ru rl' le' ct me mp ht).1 ∧ eqB (rsF κ n L a ru rl le ct me mp ht).2.1 (rsF κ' n L a ru rl' le' ct me mp ht).2.1 (rsF κ n L a ru rl le ct me mp ht).1 ∧ eqB (rsF κ n L a ru rl le ct me mp ht).2.2.1 (rsF κ' n L a ru rl' le' ct me mp ht).2.2.1 (rsF κ n L a ru rl le ct me mp ht).2.2.2.1 ∧ (rsF κ n L a ru rl le ct me mp ht).2.2.2 = (rsF κ' n L a ru rl' le' ct me mp ht).2.2.2 := by
  intro d
  induction d with
  | zero =>
    intro a ru rl rl' le le' ct me mp ht hd h1 h2
    rw [rsF_n (by omega), rsF_n (by omega)]
    exact ⟨rfl, h1, h2, rfl⟩
  | succ d ih =>
    intro a ru rl rl' le le' ct me mp ht hd h1 h2
    by_cases ha : a < n
    · rw [rsF_s ha, rsF_s ha]
      rw [← mkL_congr (κ := κ) (κ' := κ') (a := a) (n := n) (L := L) (fun j _ g => hκ j g)]
      have h3 := brg_congr (ct + 1) _ _ me mp (eqB_up (x := mkL κ a n L) h2)
      rw [← h3.1]
      have := (mkL_in (κ := κ) L ha).1
      exact ih _ _ _ _ _ _ _ _ _ _ (by omega) (eqB_up h1) h3.2
    · rw [rsF_n (by omega), rsF_n (by omega)]
      exact ⟨rfl, h1, h2, rfl⟩
/-- what a sorting tells: how many runs, their lengths, how often and how much was merged, the height -/
def rnP (κ : Nat → Int) (n : Nat) (rl le : Nat → Nat) : Nat × (Nat → Nat) × Nat × Nat × Nat :=
  ((rsF κ n (lsR n 0) 0 0 rl le 0 0 0 0).1, (rsF κ n (lsR n 0) 0 0 rl le 0 0 0 0).2.1, (fnl (rsF κ n (lsR n 0) 0 0 rl le 0 0 0 0).2.2.2.1 (rsF κ n (lsR n 0) 0 0 rl le 0 0 0 0).2.2.1 (rsF κ n (lsR n 0) 0 0 rl le 0 0 0 0).2.2.2.2.1 (rsF κ n (lsR n 0) 0 0 rl le 0 0 0 0).2.2.2.2.2.1).1, (fnl (rsF κ n (lsR n 0) 0 0 rl le 0 0 0 0).2.2.2.1 (rsF κ n (lsR n 0) 0 0 rl le 0 0 0 0).2.2.1 (rsF κ n (lsR n 0) 0 0 rl le 0 0 0 0).2.2.2.2.1 (rsF κ n (lsR n 0) 0 0 rl le 0 0 0 0).2.2.2.2.2.1).2, (rsF κ n (lsR n 0) 0 0 rl le 0 0 0 0).2.2.2.2.2.2)
theorem rnP_congr {κ κ' : Nat → Int} {n : Nat} (hκ : ∀ j, j < n → κ j = κ' j) (rl rl' le le' : Nat → Nat) : (rnP κ n rl le).1 = (rnP κ' n rl' le').1 ∧ eqB (rnP κ n rl le).2.1 (rnP κ' n rl' le').2.1 (rnP κ n rl le).1 ∧ (rnP κ n rl le).2.2 = (rnP κ' n rl' le').2.2 := by
  obtain ⟨h1, h2, h3, h4⟩ := rsF_congr (L := lsR n 0) hκ n 0 0 rl rl' le le' 0 0 0 0 (by omega) (fun j hj => absurd hj (Nat.not_lt_zero j)) (fun j hj => absurd hj (Nat.not_lt_zero j))
  refine ⟨h1, h2, ?_⟩
  unfold rnP
  simp only
  rw [← h4, fnl_congr _ _ _ _ _ h3]

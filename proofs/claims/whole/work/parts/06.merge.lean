/-! MERGING two sorted stretches, from the front with the first one set aside, from the back with the second one set aside; by places -/
def mfI {α : Type} (κ : α → Int) (P0 As P : Nat → α) (a mid b f s t : Nat) : Prop :=
  (a ≤ mid ∧ mid ≤ b ∧ f ≤ mid - a ∧ mid ≤ s ∧ s ≤ b ∧ t = a + f + (s - mid)) ∧ (∀ i, i < mid - a → As i = P0 (a + i)) ∧ (∀ j, s ≤ j → P j = P0 j) ∧ (∀ j, j < a → P j = P0 j) ∧ so κ P a t ∧
  (∀ j i, a ≤ j → j < t → f ≤ i → i < mid - a → κ (P j) ≤ κ (As i)) ∧ (∀ j i, a ≤ j → j < t → s ≤ i → i < b → κ (P j) ≤ κ (P0 i)) ∧ sE κ (sg P a t ++ (sg As f (mid - a) ++ sg P0 s b)) (sg P0 a b)
theorem mf_init {α : Type} {κ : α → Int} {P0 As : Nat → α} {a mid b : Nat} (h1 : a ≤ mid) (h2 : mid ≤ b) (hA : ∀ i, i < mid - a → As i = P0 (a + i)) : mfI κ P0 As P0 a mid b 0 mid a := by
  refine ⟨⟨h1, h2, Nat.zero_le _, Nat.le_refl _, h2, by omega⟩, hA, fun _ _ => rfl, fun _ _ => rfl, fun i j g1 g2 g3 => absurd g3 (by omega), fun j i g1 g2 => absurd g2 (by omega), fun j i g1 g2 => absurd g2 (by omega), ?_⟩
  rw [sg_nil P0 (Nat.le_refl a), List.nil_append, sg_split P0 h1 h2]
  rw [show sg As 0 (mid - a) = sg P0 a mid from sg_eq (by omega) (fun i hi => by rw [Nat.zero_add]; exact hA i (by omega))]
  exact sE_refl _
theorem sg_up {α : Type} (P : Nat → α) (x : α) {a t : Nat} (h : a ≤ t) : sg (uN_up P t x) a (t + 1) = sg P a t ++ [x] := by
  rw [sg_snoc _ h, up_s]
  congr 1
  exact sg_congr (fun j _ h2 => up_n (by omega))
theorem so_up {α : Type} {κ : α → Int} {P : Nat → α} {x : α} {a t : Nat} (h : so κ P a t) (hx : ∀ j, a ≤ j → j < t → κ (P j) ≤ κ x) : so κ (uN_up P t x) a (t + 1) := by
  intro i j g1 g2 g3
  rw [up_n (show i ≠ t by omega)]
  by_cases hj : j = t
  · rw [hj, up_s]
    exact hx i g1 (by omega)
  · rw [up_n hj]
    exact h i j g1 g2 (by omega)
theorem mf_B {α : Type} {κ : α → Int} {P0 As P : Nat → α} {a mid b f s t : Nat} (hs1 : so κ P0 a mid) (hs2 : so κ P0 mid b) (I : mfI κ P0 As P a mid b f s t) (hf : f < mid - a) (hs : s < b) (hk : κ (P0 s) < κ (As f)) : mfI κ P0 As (uN_up P t (P0 s)) a mid b f (s + 1) (t + 1) := by
  obtain ⟨⟨h1, h2, h3, h4, h5, h6⟩, hA, hP, hL, hS, hBA, hBB, hE⟩ := I
  have hAs : ∀ i, f ≤ i → i < mid - a → κ (As f) ≤ κ (As i) := by
    intro i g1 g2
    by_cases he : i = f
    · rw [he]; exact Int.le_refl _
    · rw [hA f hf, hA i g2]
      exact hs1 _ _ (by omega) (by omega) (by omega)
  refine ⟨⟨h1, h2, h3, by omega, by omega, by omega⟩, hA, fun j hj => ?_, fun j hj => ?_, so_up hS (fun j g1 g2 => hBB j s g1 g2 (Nat.le_refl _) hs), ?_, ?_, ?_⟩
  · rw [up_n (by omega)]; exact hP j (by omega)
  · rw [up_n (by omega)]; exact hL j hj
  · intro j i g1 g2 g3 g4
    by_cases hj : j = t
    · rw [hj, up_s]
      have := hAs i g3 g4
      omega
    · rw [up_n hj]
      exact hBA j i g1 (by omega) g3 g4
  · intro j i g1 g2 g3 g4
    by_cases hj : j = t
    · rw [hj, up_s]
      exact hs2 s i h4 (by omega) g4
    · rw [up_n hj]
      exact hBB j i g1 (by omega) (by omega) g4
  · refine sE_trans ?_ hE
    rw [sg_up P (P0 s) (by omega), List.append_assoc, sg_cons P0 hs]
    refine sE_app (sE_refl _) ?_
    rw [← List.append_assoc, show sg As f (mid - a) ++ P0 s :: sg P0 (s + 1) b = (sg As f (mid - a) ++ [P0 s]) ++ sg P0 (s + 1) b by simp]
    refine sE_app (sE_symm (sE_move (fun x hx => ?_))) (sE_refl _)
    obtain ⟨i, g1, g2, rfl⟩ := sg_mem.mp hx
    have := hAs i g1 g2
    omega
theorem mf_A {α : Type} {κ : α → Int} {P0 As P : Nat → α} {a mid b f s t : Nat} (hs1 : so κ P0 a mid) (hs2 : so κ P0 mid b) (I : mfI κ P0 As P a mid b f s t) (hf : f < mid - a) (hk : s < b → κ (As f) ≤ κ (P0 s)) : mfI κ P0 As (uN_up P t (As f)) a mid b (f + 1) s (t + 1) := by
  obtain ⟨⟨h1, h2, h3, h4, h5, h6⟩, hA, hP, hL, hS, hBA, hBB, hE⟩ := I
  refine ⟨⟨h1, h2, by omega, by omega, by omega, by omega⟩, hA, fun j hj => ?_, fun j hj => ?_, so_up hS (fun j g1 g2 => hBA j f g1 g2 (Nat.le_refl _) hf), ?_, ?_, ?_⟩
  · rw [up_n (by omega)]; exact hP j (by omega)
  · rw [up_n (by omega)]; exact hL j hj
  · intro j i g1 g2 g3 g4
    by_cases hj : j = t
    · rw [hj, up_s, hA f hf, hA i g4]
      exact hs1 _ _ (by omega) (by omega) (by omega)
    · rw [up_n hj]
      exact hBA j i g1 (by omega) (by omega) g4
  · intro j i g1 g2 g3 g4
    by_cases hj : j = t
    · rw [hj, up_s]
      have h7 := hk (by omega)
      by_cases hi : i = s
      · rw [hi]; exact h7
      · exact Int.le_trans h7 (hs2 s i h4 (by omega) g4)
    · rw [up_n hj]
      exact hBB j i g1 (by omega) (by omega) g4
  · refine sE_trans ?_ hE
    rw [sg_up P (As f) (by omega), List.append_assoc, sg_cons As hf]
    exact sE_refl _
theorem mf_end {α : Type} {κ : α → Int} {P0 As P : Nat → α} {a mid b f s t : Nat} (hs1 : so κ P0 a mid) (hs2 : so κ P0 mid b) (I : mfI κ P0 As P a mid b f s t) (hfs : f = mid - a ∨ s = b) : (∀ j, (j < a ∨ b ≤ j) → va_cpy As P f t (mid - a - f) j = P0 j) ∧ so κ (va_cpy As P f t (mid - a - f)) a b ∧ sE κ (sg (va_cpy As P f t (mid - a - f)) a b) (sg P0 a b) := by
  obtain ⟨⟨h1, h2, h3, h4, h5, h6⟩, hA, hP, hL, hS, hBA, hBB, hE⟩ := I
  have c1 : ∀ j, j < t → va_cpy As P f t (mid - a - f) j = P j := fun j hj => pk_cpy_out (Or.inl hj)
  have c2 : ∀ j, t ≤ j → j < s → va_cpy As P f t (mid - a - f) j = As (f + (j - t)) := fun j g1 g2 => pk_cpy_in g1 (by omega)
  have c3 : ∀ j, s ≤ j → va_cpy As P f t (mid - a - f) j = P0 j := fun j g1 => by rw [pk_cpy_out (Or.inr (by omega))]; exact hP j g1
  refine ⟨fun j hj => ?_, ?_, ?_⟩
  · rcases hj with hj | hj
    · rw [c1 j (by omega)]; exact hL j hj
    · exact c3 j (by omega)
  · intro i j g1 g2 g3
    by_cases hi : i < t
    · rw [c1 i hi]
      by_cases hj : j < t
      · rw [c1 j hj]; exact hS i j g1 g2 hj
      · by_cases hj2 : j < s
        · rw [c2 j (by omega) hj2]; exact hBA i _ g1 hi (by omega) (by omega)
        · rw [c3 j (by omega)]; exact hBB i j g1 hi (by omega) g3
    · by_cases hi2 : i < s
      · rw [c2 i (by omega) hi2]
        rw [c2 j (by omega) (by omega), hA _ (by omega), hA _ (by omega)]
        exact hs1 _ _ (by omega) (by omega) (by omega)
      · rw [c3 i (by omega), c3 j (by omega)]
        exact hs2 i j (by omega) g2 g3
  · refine sE_trans ?_ hE
    rw [sg_split (va_cpy As P f t (mid - a - f)) (show a ≤ t by omega) (show t ≤ b by omega), sg_split (va_cpy As P f t (mid - a - f)) (show t ≤ s by omega) h5]
    rw [show sg (va_cpy As P f t (mid - a - f)) a t = sg P a t from sg_congr (fun j _ g2 => c1 j g2)]
    rw [show sg (va_cpy As P f t (mid - a - f)) t s = sg As f (mid - a) from sg_eq (by omega) (fun i hi => by rw [c2 (t + i) (by omega) (by omega)]; congr 1; omega)]
    rw [show sg (va_cpy As P f t (mid - a - f)) s b = sg P0 s b from sg_congr (fun j g1 _ => c3 j g1)]
    exact sE_refl _
/-- from the back: p and q are what is left of the first stretch's places (below p) and of the second's, aside (below q) -/
def mbI {α : Type} (κ : α → Int) (P0 As P : Nat → α) (a mid b p q r : Nat) : Prop :=
  (a ≤ p ∧ p ≤ mid ∧ mid ≤ b ∧ q ≤ b - mid ∧ r = p + q) ∧ (∀ i, i < b - mid → As i = P0 (mid + i)) ∧ (∀ j, j < p → P j = P0 j) ∧ (∀ j, b ≤ j → P j = P0 j) ∧ so κ P r b ∧
  (∀ j i, r ≤ j → j < b → a ≤ i → i < p → κ (P0 i) ≤ κ (P j)) ∧ (∀ j i, r ≤ j → j < b → i < q → κ (As i) ≤ κ (P j)) ∧ sE κ (sg P0 a p ++ (sg As 0 q ++ sg P r b)) (sg P0 a b)
theorem mb_init {α : Type} {κ : α → Int} {P0 As : Nat → α} {a mid b : Nat} (h1 : a ≤ mid) (h2 : mid ≤ b) (hA : ∀ i, i < b - mid → As i = P0 (mid + i)) : mbI κ P0 As P0 a mid b mid (b - mid) b := by
  refine ⟨⟨h1, Nat.le_refl _, h2, Nat.le_refl _, by omega⟩, hA, fun _ _ => rfl, fun _ _ => rfl, fun i j g1 g2 g3 => absurd g3 (by omega), fun j i g1 g2 => absurd g2 (by omega), fun j i g1 g2 => absurd g2 (by omega), ?_⟩
  rw [sg_nil P0 (Nat.le_refl b), List.append_nil, sg_split P0 h1 h2]
  rw [show sg As 0 (b - mid) = sg P0 mid b from sg_eq (by omega) (fun i hi => by rw [Nat.zero_add]; exact hA i (by omega))]
  exact sE_refl _
theorem sg_dn {α : Type} (P : Nat → α) (x : α) {t b : Nat} (h : t < b) : sg (uN_up P t x) t b = x :: sg P (t + 1) b := by
  rw [sg_cons _ h, up_s]
  congr 1
  exact sg_congr (fun j h2 _ => up_n (by omega))
theorem so_dn {α : Type} {κ : α → Int} {P : Nat → α} {x : α} {t b : Nat} (h : so κ P (t + 1) b) (hx : ∀ j, t + 1 ≤ j → j < b → κ x ≤ κ (P j)) : so κ (uN_up P t x) t b := by
  intro i j g1 g2 g3
  rw [up_n (show j ≠ t by omega)]
  by_cases hi : i = t
  · rw [hi, up_s]
    exact hx j (by omega) g3
  · rw [up_n hi]
    exact h i j (by omega) g2 g3
theorem mb_A {α : Type} {κ : α → Int} {P0 As P : Nat → α} {a mid b p q r : Nat} (hs1 : so κ P0 a mid) (hs2 : so κ P0 mid b) (I : mbI κ P0 As P a mid b (p + 1) q (r + 1)) (hp : a ≤ p) (hk : ∀ i, i < q → κ (As i) < κ (P0 p)) : mbI κ P0 As (uN_up P r (P0 p)) a mid b p q r := by
  obtain ⟨⟨h1, h2, h3, h4, h6⟩, hA, hP, hL, hS, hBA, hBB, hE⟩ := I
  refine ⟨⟨hp, by omega, h3, h4, by omega⟩, hA, fun j hj => ?_, fun j hj => ?_, so_dn hS (fun j g1 g2 => hBA j p g1 g2 hp (by omega)), ?_, ?_, ?_⟩
  · rw [up_n (by omega)]; exact hP j (by omega)
  · rw [up_n (by omega)]; exact hL j hj
  · intro j i g1 g2 g3 g4
    by_cases hj : j = r
    · rw [hj, up_s]
      exact hs1 i p g3 g4 (by omega)
    · rw [up_n hj]
      exact hBA j i (by omega) g2 g3 (by omega)
  · intro j i g1 g2 g3
    by_cases hj : j = r
    · rw [hj, up_s]
      exact Int.le_of_lt (hk i g3)
    · rw [up_n hj]
      exact hBB j i (by omega) g2 g3
  · refine sE_trans ?_ hE
    rw [sg_dn P (P0 p) (by omega), sg_snoc P0 hp, List.append_assoc]
    refine sE_app (sE_refl _) ?_
    rw [show sg As 0 q ++ P0 p :: sg P (r + 1) b = (sg As 0 q ++ [P0 p]) ++ sg P (r + 1) b by simp, ← List.append_assoc]
    refine sE_app (sE_move (fun x hx => ?_)) (sE_refl _)
    obtain ⟨i, g1, g2, rfl⟩ := sg_mem.mp hx
    have := hk i g2
    omega
theorem mb_B {α : Type} {κ : α → Int} {P0 As P : Nat → α} {a mid b p q r : Nat} (hs1 : so κ P0 a mid) (hs2 : so κ P0 mid b) (I : mbI κ P0 As P a mid b p (q + 1) (r + 1)) (hk : ∀ i, a ≤ i → i < p → κ (P0 i) ≤ κ (As q)) : mbI κ P0 As (uN_up P r (As q)) a mid b p q r := by
  obtain ⟨⟨h1, h2, h3, h4, h6⟩, hA, hP, hL, hS, hBA, hBB, hE⟩ := I
  refine ⟨⟨h1, h2, h3, by omega, by omega⟩, hA, fun j hj => ?_, fun j hj => ?_, so_dn hS (fun j g1 g2 => hBB j q g1 g2 (by omega)), ?_, ?_, ?_⟩
  · rw [up_n (by omega)]; exact hP j (by omega)
  · rw [up_n (by omega)]; exact hL j hj
  · intro j i g1 g2 g3 g4
    by_cases hj : j = r
    · rw [hj, up_s]
      exact hk i g3 g4
    · rw [up_n hj]
      exact hBA j i (by omega) g2 g3 (by omega)
  · intro j i g1 g2 g3
    by_cases hj : j = r
    · rw [hj, up_s, hA i (by omega), hA q (by omega)]
      exact hs2 _ _ (by omega) (by omega) (by omega)
    · rw [up_n hj]
      exact hBB j i (by omega) g2 (by omega)
  · refine sE_trans ?_ hE
    rw [sg_dn P (As q) (by omega), sg_snoc As (Nat.zero_le q), List.append_assoc]
    exact sE_refl _
theorem mb_end {α : Type} {κ : α → Int} {P0 As P : Nat → α} {a mid b p q r : Nat} (hs1 : so κ P0 a mid) (hs2 : so κ P0 mid b) (I : mbI κ P0 As P a mid b p q r) (hpq : p = a ∨ q = 0) : (∀ j, (j < a ∨ b ≤ j) → va_cpy As P 0 p q j = P0 j) ∧ so κ (va_cpy As P 0 p q) a b ∧ sE κ (sg (va_cpy As P 0 p q) a b) (sg P0 a b) := by
  obtain ⟨⟨h1, h2, h3, h4, h6⟩, hA, hP, hL, hS, hBA, hBB, hE⟩ := I
  have c1 : ∀ j, j < p → va_cpy As P 0 p q j = P0 j := fun j hj => by rw [pk_cpy_out (Or.inl hj)]; exact hP j hj
  have c2 : ∀ j, p ≤ j → j < r → va_cpy As P 0 p q j = As (j - p) := fun j g1 g2 => by rw [pk_cpy_in g1 (by omega), Nat.zero_add]
  have c3 : ∀ j, r ≤ j → va_cpy As P 0 p q j = P j := fun j g1 => pk_cpy_out (Or.inr (by omega))
  refine ⟨fun j hj => ?_, ?_, ?_⟩
  · rcases hj with hj | hj
    · exact c1 j (by omega)
    · rw [c3 j (by omega)]; exact hL j hj
  · intro i j g1 g2 g3
    by_cases hi : i < p
    · rw [c1 i hi]
      by_cases hj : j < p
      · rw [c1 j hj]; exact hs1 i j g1 g2 (by omega)
      · by_cases hj2 : j < r
        · exact absurd hpq (by omega)
        · rw [c3 j (by omega)]; exact hBA j i (by omega) g3 g1 hi
    · by_cases hi2 : i < r
      · rw [c2 i (by omega) hi2]
        by_cases hj2 : j < r
        · rw [c2 j (by omega) hj2, hA _ (by omega), hA _ (by omega)]
          exact hs2 _ _ (by omega) (by omega) (by omega)
        · rw [c3 j (by omega)]; exact hBB j _ (by omega) g3 (by omega)
      · rw [c3 i (by omega), c3 j (by omega)]
        exact hS i j (by omega) g2 g3
  · refine sE_trans ?_ hE
    rw [sg_split (va_cpy As P 0 p q) (show a ≤ p by omega) (show p ≤ b by omega), sg_split (va_cpy As P 0 p q) (show p ≤ r by omega) (show r ≤ b by omega)]
    rw [show sg (va_cpy As P 0 p q) a p = sg P0 a p from sg_congr (fun j _ g2 => c1 j g2)]
    rw [show sg (va_cpy As P 0 p q) p r = sg As 0 q from sg_eq (by omega) (fun i hi => by rw [c2 (p + i) (by omega) (by omega)]; congr 1; omega)]
    rw [show sg (va_cpy As P 0 p q) r b = sg P r b from sg_congr (fun j g1 _ => c3 j g1)]
    exact sE_refl _

/-! THE SORTING, without a machine: two lists are 'alike' (sE) when of each key they hold the same elements in the same order; two sorted lists that are alike are one -/
def sE {α : Type} (κ : α → Int) (l1 l2 : List α) : Prop := ∀ k : Int, l1.filter (fun x => κ x == k) = l2.filter (fun x => κ x == k)
theorem sE_refl {α : Type} {κ : α → Int} (l : List α) : sE κ l l := fun _ => rfl
theorem sE_symm {α : Type} {κ : α → Int} {a b : List α} (h : sE κ a b) : sE κ b a := fun k => (h k).symm
theorem sE_trans {α : Type} {κ : α → Int} {a b d : List α} (h : sE κ a b) (g : sE κ b d) : sE κ a d := fun k => (h k).trans (g k)
theorem sE_app {α : Type} {κ : α → Int} {a b d e : List α} (h : sE κ a b) (g : sE κ d e) : sE κ (a ++ d) (b ++ e) := fun k => by rw [List.filter_append, List.filter_append, h k, g k]
theorem sE_move {α : Type} {κ : α → Int} {X : List α} {b : α} (h : ∀ x ∈ X, κ x ≠ κ b) : sE κ (X ++ [b]) (b :: X) := by
  intro k
  rw [List.filter_append]
  by_cases hb : κ b = k
  · have hX : X.filter (fun x => κ x == k) = [] := by
      rw [List.filter_eq_nil_iff]
      intro x hx hk
      exact h x hx (by rw [hb]; exact eq_of_beq hk)
    simp [List.filter_cons, hb, hX]
  · simp [List.filter_cons, hb]
theorem sE_rev {α : Type} {κ : α → Int} : ∀ (l : List α), l.Pairwise (fun a b => κ b < κ a) → sE κ l.reverse l
  | [], _ => sE_refl _
  | a :: t, h => by
    rw [List.reverse_cons]
    have h2 := List.pairwise_cons.mp h
    refine sE_trans (sE_move (fun x hx => ?_)) (sE_app (a := [a]) (b := [a]) (sE_refl _) (sE_rev t h2.2))
    have := h2.1 x (List.mem_reverse.mp hx)
    omega
def sd {α : Type} (κ : α → Int) (l : List α) : Prop := l.Pairwise (fun a b => κ a ≤ κ b)
theorem sE_one {α : Type} {κ : α → Int} {a b : α} {t u : List α} (h : sE κ (a :: t) (b :: u)) (hs : sd κ (b :: u)) : κ b ≤ κ a := by
  have h1 := h (κ a)
  rw [List.filter_cons_of_pos (by simp)] at h1
  have hm : a ∈ (b :: u).filter (fun x => κ x == κ a) := by rw [← h1]; exact List.mem_cons_self
  have hm2 := (List.mem_filter.mp hm).1
  rcases List.mem_cons.mp hm2 with q | q
  · rw [q]; exact Int.le_refl _
  · exact (List.pairwise_cons.mp hs).1 a q
theorem sE_uniq {α : Type} {κ : α → Int} : ∀ (l1 l2 : List α), sd κ l1 → sd κ l2 → sE κ l1 l2 → l1 = l2
  | [], [], _, _, _ => rfl
  | [], b :: u, _, _, h => by
    have h1 := h (κ b)
    rw [List.filter_cons_of_pos (by simp)] at h1
    simp at h1
  | a :: t, [], _, _, h => by
    have h1 := h (κ a)
    rw [List.filter_cons_of_pos (by simp)] at h1
    simp at h1
  | a :: t, b :: u, h1, h2, h => by
    have e1 := sE_one h h2
    have e2 := sE_one (sE_symm h) h1
    have e : κ a = κ b := Int.le_antisymm e2 e1
    have h3 := h (κ a)
    rw [List.filter_cons_of_pos (by simp), List.filter_cons_of_pos (by simp [e])] at h3
    have h4 := List.cons.inj h3
    have hab : a = b := h4.1
    subst hab
    congr 1
    refine sE_uniq t u (List.pairwise_cons.mp h1).2 (List.pairwise_cons.mp h2).2 (fun k => ?_)
    by_cases hk : κ a = k
    · subst hk
      exact h4.2
    · have h5 := h k
      rw [List.filter_cons_of_neg (by simp [hk]), List.filter_cons_of_neg (by simp [hk])] at h5
      exact h5
/-- the places a .. b - 1 of an array -/
def sg {α : Type} (f : Nat → α) (a b : Nat) : List α := (List.range (b - a)).map (fun i => f (a + i))
theorem sg_len {α : Type} (f : Nat → α) (a b : Nat) : (sg f a b).length = b - a := by simp [sg]
theorem sg_nil {α : Type} (f : Nat → α) {a b : Nat} (h : b ≤ a) : sg f a b = [] := by simp [sg, Nat.sub_eq_zero_of_le h]
theorem sg_get {α : Type} (f : Nat → α) {a b i : Nat} (h : i < b - a) : (sg f a b)[i]? = some (f (a + i)) := by simp [sg, h]
theorem sg_mem {α : Type} {f : Nat → α} {a b : Nat} {x : α} : x ∈ sg f a b ↔ ∃ j, a ≤ j ∧ j < b ∧ x = f j := by
  constructor
  · intro h
    obtain ⟨i, hi, rfl⟩ := List.mem_map.mp h
    have := List.mem_range.mp hi
    exact ⟨a + i, by omega, by omega, rfl⟩
  · rintro ⟨j, h1, h2, rfl⟩
    refine List.mem_map.mpr ⟨j - a, List.mem_range.mpr (by omega), ?_⟩
    rw [show a + (j - a) = j by omega]
theorem sg_eq {α : Type} {f g : Nat → α} {a b a' b' : Nat} (hl : b - a = b' - a') (h : ∀ i, i < b - a → f (a + i) = g (a' + i)) : sg f a b = sg g a' b' := by
  unfold sg
  rw [← hl]
  apply List.map_congr_left
  intro i hi
  exact h i (List.mem_range.mp hi)
theorem sg_congr {α : Type} {f g : Nat → α} {a b : Nat} (h : ∀ j, a ≤ j → j < b → f j = g j) : sg f a b = sg g a b := sg_eq rfl (fun i hi => h (a + i) (by omega) (by omega))
theorem sg_split {α : Type} (f : Nat → α) {a b d : Nat} (h1 : a ≤ b) (h2 : b ≤ d) : sg f a d = sg f a b ++ sg f b d := by
  apply List.ext_getElem?
  intro i
  by_cases hi : i < d - a
  · rw [sg_get f hi]
    by_cases h3 : i < b - a
    · rw [List.getElem?_append_left (by rw [sg_len]; exact h3), sg_get f h3]
    · rw [List.getElem?_append_right (by rw [sg_len]; omega), sg_len, sg_get f (by omega)]
      congr 2
      omega
  · rw [List.getElem?_eq_none (by rw [sg_len]; omega), List.getElem?_eq_none (by rw [List.length_append, sg_len, sg_len]; omega)]
theorem sg_one {α : Type} (f : Nat → α) (a : Nat) : sg f a (a + 1) = [f a] := by
  have : a + 1 - a = 1 := by omega
  simp [sg, this, List.range_succ]
theorem sg_cons {α : Type} (f : Nat → α) {a b : Nat} (h : a < b) : sg f a b = f a :: sg f (a + 1) b := by
  rw [sg_split f (Nat.le_succ a) h, sg_one]
  rfl
theorem sg_snoc {α : Type} (f : Nat → α) {a b : Nat} (h : a ≤ b) : sg f a (b + 1) = sg f a b ++ [f b] := by
  rw [sg_split f h (Nat.le_succ b), sg_one]
/-- sorted, by places -/
def so {α : Type} (κ : α → Int) (f : Nat → α) (a b : Nat) : Prop := ∀ i j, a ≤ i → i < j → j < b → κ (f i) ≤ κ (f j)
theorem so_sd {α : Type} {κ : α → Int} {f : Nat → α} {a b : Nat} (h : so κ f a b) : sd κ (sg f a b) := by
  unfold sd
  rw [List.pairwise_iff_getElem]
  intro i j hi hj hij
  have hi' : i < b - a := by rw [sg_len] at hi; exact hi
  have hj' : j < b - a := by rw [sg_len] at hj; exact hj
  have e1 : (sg f a b)[i] = f (a + i) := by have := sg_get f hi'; rw [List.getElem?_eq_getElem hi] at this; exact Option.some.inj this
  have e2 : (sg f a b)[j] = f (a + j) := by have := sg_get f hj'; rw [List.getElem?_eq_getElem hj] at this; exact Option.some.inj this
  rw [e1, e2]
  exact h _ _ (by omega) (by omega) (by omega)
theorem so_step {α : Type} {κ : α → Int} {f : Nat → α} {a b : Nat} (h : ∀ i, a ≤ i → i + 1 < b → κ (f i) ≤ κ (f (i + 1))) : so κ f a b := by
  intro i j h1 h2 h3
  obtain ⟨d, rfl⟩ : ∃ d, j = i + 1 + d := ⟨j - (i + 1), by omega⟩
  clear h2
  induction d with
  | zero => exact h i h1 h3
  | succ d ih => exact Int.le_trans (ih (by omega)) (h (i + 1 + d) (by omega) h3)
theorem so_congr {α : Type} {κ : α → Int} {f g : Nat → α} {a b : Nat} (h : ∀ j, a ≤ j → j < b → f j = g j) (hs : so κ f a b) : so κ g a b := by
  intro i j h1 h2 h3
  rw [← h i h1 (by omega), ← h j (by omega) h3]
  exact hs i j h1 h2 h3
theorem so_sub {α : Type} {κ : α → Int} {f : Nat → α} {a b a' b' : Nat} (hs : so κ f a b) (h1 : a ≤ a') (h2 : b' ≤ b) : so κ f a' b' := fun i j g1 g2 g3 => hs i j (Nat.le_trans h1 g1) g2 (Nat.lt_of_lt_of_le g3 h2)
/-- an element goes left past greater ones, by places: what stood at 'b' stands at 'a', the rest one further -/
theorem sE_left {α : Type} {κ : α → Int} {f g : Nat → α} {a b : Nat} (hab : a ≤ b) (h0 : g a = f b) (h1 : ∀ j, a ≤ j → j < b → g (j + 1) = f j) (hk : ∀ j, a ≤ j → j < b → κ (f b) < κ (f j)) : sE κ (sg g a (b + 1)) (sg f a (b + 1)) := by
  rw [sg_cons g (by omega), sg_snoc f hab, h0]
  rw [show sg g (a + 1) (b + 1) = sg f a b from sg_eq (by omega) (fun i hi => by rw [show a + 1 + i = (a + i) + 1 by omega]; exact h1 (a + i) (by omega) (by omega))]
  refine sE_symm (sE_move (fun x hx => ?_))
  obtain ⟨j, g1, g2, rfl⟩ := sg_mem.mp hx
  have := hk j g1 g2
  omega
theorem sE_in {α : Type} {κ : α → Int} {f g : Nat → α} {a b lo hi : Nat} (h1 : lo ≤ a) (h2 : a ≤ b) (h3 : b ≤ hi) (hl : ∀ j, lo ≤ j → j < a → g j = f j) (hr : ∀ j, b ≤ j → j < hi → g j = f j) (h : sE κ (sg g a b) (sg f a b)) : sE κ (sg g lo hi) (sg f lo hi) := by
  rw [sg_split g h1 (Nat.le_trans h2 h3), sg_split g h2 h3, sg_split f h1 (Nat.le_trans h2 h3), sg_split f h2 h3]
  rw [sg_congr hl, sg_congr hr]
  exact sE_app (sE_refl _) (sE_app h (sE_refl _))
/-- a strictly falling stretch, turned round -/
theorem sE_turn {α : Type} {κ : α → Int} {f g : Nat → α} {a b : Nat} (hf : ∀ i j, a ≤ i → i < j → j < b → κ (f j) < κ (f i)) (hg : ∀ j, a ≤ j → j < b → g j = f (a + (b - 1 - j))) : sE κ (sg g a b) (sg f a b) := by
  have e : sg g a b = (sg f a b).reverse := by
    apply List.ext_getElem?
    intro i
    by_cases hi : i < b - a
    · rw [sg_get g hi, List.getElem?_reverse (by rw [sg_len]; exact hi), sg_len, sg_get f (by omega), hg (a + i) (by omega) (by omega)]
      congr 2
      omega
    · rw [List.getElem?_eq_none (by rw [sg_len]; omega), List.getElem?_eq_none (by rw [List.length_reverse, sg_len]; omega)]
  rw [e]
  refine sE_rev _ ?_
  rw [List.pairwise_iff_getElem]
  intro i j hi hj hij
  have hi' : i < b - a := by rw [sg_len] at hi; exact hi
  have hj' : j < b - a := by rw [sg_len] at hj; exact hj
  have e1 : (sg f a b)[i] = f (a + i) := by have := sg_get f hi'; rw [List.getElem?_eq_getElem hi] at this; exact Option.some.inj this
  have e2 : (sg f a b)[j] = f (a + j) := by have := sg_get f hj'; rw [List.getElem?_eq_getElem hj] at this; exact Option.some.inj this
  rw [e1, e2]
  exact hf _ _ (by omega) (by omega) (by omega)

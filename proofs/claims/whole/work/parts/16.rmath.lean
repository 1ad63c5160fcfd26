/-! THE REFERENCE's sorting, without a machine -/
def k2 (x : Int32 × Int32) : Int := x.1.toInt
def prF (K T : Nat → Int32) : Nat → Int32 × Int32 := fun j => (K j, T j)
theorem prF_up (K T : Nat → Int32) (k : Nat) (a b : Int32) : prF (uN_up K k a) (uN_up T k b) = uN_up (prF K T) k (a, b) := by
  funext j
  by_cases h : j = k
  · subst h
    unfold prF
    rw [up_s, up_s, up_s]
  · unfold prF
    rw [up_n h, up_n h, up_n h]
def okq {α : Type} (κ : α → Int) (f g : Nat → α) (a b : Nat) : Prop := (∀ j, (j < a ∨ b ≤ j) → g j = f j) ∧ so κ g a b ∧ sE κ (sg g a b) (sg f a b)
/-- two stretches are put together elsewhere: x of the first, y of the second are next -/
def cmI {α : Type} (κ : α → Int) (P0 O : Nat → α) (a mid b x y k : Nat) : Prop :=
  (a ≤ x ∧ x ≤ mid ∧ mid ≤ y ∧ y ≤ b ∧ k = x + (y - mid)) ∧ so κ O a k ∧
  (∀ j i, a ≤ j → j < k → x ≤ i → i < mid → κ (O j) ≤ κ (P0 i)) ∧ (∀ j i, a ≤ j → j < k → y ≤ i → i < b → κ (O j) ≤ κ (P0 i)) ∧ sE κ (sg O a k ++ (sg P0 x mid ++ sg P0 y b)) (sg P0 a b)
theorem cm_init {α : Type} {κ : α → Int} {P0 O : Nat → α} {a mid b : Nat} (h1 : a ≤ mid) (h2 : mid ≤ b) : cmI κ P0 O a mid b a mid a := by
  refine ⟨⟨Nat.le_refl _, h1, Nat.le_refl _, h2, by omega⟩, fun i j g1 g2 g3 => absurd g3 (by omega), fun j i g1 g2 => absurd g2 (by omega), fun j i g1 g2 => absurd g2 (by omega), ?_⟩
  rw [sg_nil O (Nat.le_refl a), List.nil_append, sg_split P0 h1 h2]
  exact sE_refl _
theorem cm_A {α : Type} {κ : α → Int} {P0 O : Nat → α} {a mid b x y k : Nat} (hs1 : so κ P0 a mid) (hs2 : so κ P0 mid b) (I : cmI κ P0 O a mid b x y k) (hx : x < mid) (hk : y < b → κ (P0 x) ≤ κ (P0 y)) : cmI κ P0 (uN_up O k (P0 x)) a mid b (x + 1) y (k + 1) := by
  obtain ⟨⟨h1, h2, h4, h5, h6⟩, hS, hBA, hBB, hE⟩ := I
  refine ⟨⟨by omega, hx, h4, h5, by omega⟩, so_up hS (fun j g1 g2 => hBA j x g1 g2 (Nat.le_refl _) hx), ?_, ?_, ?_⟩
  · intro j i g1 g2 g3 g4
    by_cases hj : j = k
    · rw [hj, up_s]
      exact hs1 x i h1 (by omega) g4
    · rw [up_n hj]
      exact hBA j i g1 (by omega) (by omega) g4
  · intro j i g1 g2 g3 g4
    by_cases hj : j = k
    · rw [hj, up_s]
      have h7 := hk (by omega)
      by_cases hi : i = y
      · rw [hi]; exact h7
      · exact Int.le_trans h7 (hs2 y i h4 (by omega) g4)
    · rw [up_n hj]
      exact hBB j i g1 (by omega) g3 g4
  · refine sE_trans ?_ hE
    rw [sg_up O (P0 x) (by omega), List.append_assoc, sg_cons P0 hx]
    exact sE_refl _
theorem cm_B {α : Type} {κ : α → Int} {P0 O : Nat → α} {a mid b x y k : Nat} (hs1 : so κ P0 a mid) (hs2 : so κ P0 mid b) (I : cmI κ P0 O a mid b x y k) (hy : y < b) (hk : x < mid → κ (P0 y) < κ (P0 x)) : cmI κ P0 (uN_up O k (P0 y)) a mid b x (y + 1) (k + 1) := by
  obtain ⟨⟨h1, h2, h4, h5, h6⟩, hS, hBA, hBB, hE⟩ := I
  have hxs : ∀ i, x ≤ i → i < mid → κ (P0 y) < κ (P0 i) := by
    intro i g1 g2
    have h7 := hk (by omega)
    by_cases hi : i = x
    · rw [hi]; exact h7
    · exact Int.lt_of_lt_of_le h7 (hs1 x i h1 (by omega) g2)
  refine ⟨⟨h1, h2, by omega, hy, by omega⟩, so_up hS (fun j g1 g2 => hBB j y g1 g2 (Nat.le_refl _) hy), ?_, ?_, ?_⟩
  · intro j i g1 g2 g3 g4
    by_cases hj : j = k
    · rw [hj, up_s]
      exact Int.le_of_lt (hxs i g3 g4)
    · rw [up_n hj]
      exact hBA j i g1 (by omega) g3 g4
  · intro j i g1 g2 g3 g4
    by_cases hj : j = k
    · rw [hj, up_s]
      exact hs2 y i h4 (by omega) g4
    · rw [up_n hj]
      exact hBB j i g1 (by omega) (by omega) g4
  · refine sE_trans ?_ hE
    rw [sg_up O (P0 y) (by omega), List.append_assoc, sg_cons P0 hy]
    refine sE_app (sE_refl _) ?_
    rw [← List.append_assoc, show sg P0 x mid ++ P0 y :: sg P0 (y + 1) b = (sg P0 x mid ++ [P0 y]) ++ sg P0 (y + 1) b by simp]
    refine sE_app (sE_symm (sE_move (fun z hz => ?_))) (sE_refl _)
    obtain ⟨i, g1, g2, rfl⟩ := sg_mem.mp hz
    have := hxs i g1 g2
    omega
theorem cm_end {α : Type} {κ : α → Int} {P0 O P : Nat → α} {a mid b x y : Nat} (I : cmI κ P0 O a mid b x y b) (h0 : ∀ j, (j < a ∨ b ≤ j) → P j = P0 j) (h1 : ∀ j, a ≤ j → j < b → P j = O j) : okq κ P0 P a b := by
  obtain ⟨⟨g1, g2, g4, g5, g6⟩, hS, -, -, hE⟩ := I
  rw [sg_nil P0 (show mid ≤ x by omega), sg_nil P0 (show b ≤ y by omega), List.append_nil, List.append_nil] at hE
  refine ⟨h0, so_congr (fun j q1 q2 => (h1 j q1 q2).symm) hS, ?_⟩
  rw [sg_congr h1]
  exact hE
theorem okq_sE {α : Type} {κ : α → Int} {f0 f g : Nat → α} {a b n : Nat} (hab : a ≤ b) (hb : b ≤ n) (h : okq κ f g a b) (hE : sE κ (sg f 0 n) (sg f0 0 n)) : sE κ (sg g 0 n) (sg f0 0 n) :=
  sE_trans (sE_in (Nat.zero_le a) hab hb (fun j _ q => h.1 j (Or.inl q)) (fun j q _ => h.1 j (Or.inr q)) h.2.2) hE
/-- stretches of the same width are sorted: from lo on, below hi -/
def bL {α : Type} (κ : α → Int) (f : Nat → α) (w n lo : Nat) : Prop := ∀ c, lo ≤ c * w → so κ f (c * w) (min (c * w + w) n)
def bU {α : Type} (κ : α → Int) (f : Nat → α) (w n hi : Nat) : Prop := ∀ c, c * w < hi → so κ f (c * w) (min (c * w + w) n)
theorem bL_1 {α : Type} {κ : α → Int} {f : Nat → α} {n : Nat} : bL κ f 1 n 0 := fun c _ i j h1 h2 h3 => absurd h3 (by omega)
theorem bL_end {α : Type} {κ : α → Int} {f : Nat → α} {w n : Nat} (h : bL κ f w n 0) (hw : n ≤ w) : so κ f 0 n := by
  have h1 := h 0 (by omega)
  rw [Nat.zero_mul, Nat.zero_add, Nat.min_eq_right hw] at h1
  exact h1
theorem bU_0 {α : Type} {κ : α → Int} {f : Nat → α} {w n : Nat} : bU κ f w n 0 := fun c h => absurd h (Nat.not_lt_zero _)
theorem b_step {α : Type} {κ : α → Int} {f g : Nat → α} {w n q a : Nat} (ha : a = q * (2 * w)) (hw : 0 < w) (hU : bU κ f (2 * w) n a) (hL : bL κ f w n a) (h : okq κ f g a (min (a + 2 * w) n)) : bU κ g (2 * w) n (a + 2 * w) ∧ bL κ g w n (a + 2 * w) := by
  refine ⟨fun c hc => ?_, fun c hc => ?_⟩
  · by_cases hcq : c < q
    · have h1 : (c + 1) * (2 * w) ≤ q * (2 * w) := Nat.mul_le_mul_right _ hcq
      rw [Nat.succ_mul] at h1
      have h2 : c * (2 * w) < a := by omega
      exact so_congr (fun j q1 q2 => (h.1 j (Or.inl (by omega))).symm) (hU c h2)
    · have h3 : c = q := by
        by_cases h4 : q + 1 ≤ c
        · have h1 : (q + 1) * (2 * w) ≤ c * (2 * w) := Nat.mul_le_mul_right _ h4
          rw [Nat.succ_mul] at h1
          omega
        · omega
      rw [h3, ← ha]
      exact h.2.1
  · exact so_congr (fun j q1 q2 => (h.1 j (Or.inr (by omega))).symm) (hL c (by omega))
theorem b_in {α : Type} {κ : α → Int} {f : Nat → α} {w n q a : Nat} (ha : a = q * (2 * w)) (hL : bL κ f w n a) (haw : a + w ≤ n) : so κ f a (a + w) ∧ so κ f (a + w) (min (a + 2 * w) n) := by
  have e1 : (2 * q) * w = a := by rw [ha, Nat.mul_comm 2 q, Nat.mul_assoc]
  have e2 : (2 * q + 1) * w = a + w := by rw [Nat.succ_mul, e1]
  have h1 := hL (2 * q) (by omega)
  have h2 := hL (2 * q + 1) (by omega)
  rw [e1, Nat.min_eq_left haw] at h1
  rw [e2, show a + w + w = a + 2 * w by omega] at h2
  exact ⟨h1, h2⟩
theorem b_out {α : Type} {κ : α → Int} {f : Nat → α} {w n q a : Nat} (ha : a = q * (2 * w)) (hw : 0 < w) (hU : bU κ f (2 * w) n a) (hL : bL κ f w n a) (han : n ≤ a + w) : bL κ f (2 * w) n 0 := by
  intro c _
  by_cases hc : c * (2 * w) < a
  · exact hU c hc
  · by_cases hcq : c = q
    · have e1 : (2 * q) * w = a := by rw [ha, Nat.mul_comm 2 q, Nat.mul_assoc]
      have h1 := hL (2 * q) (by omega)
      rw [e1] at h1
      rw [hcq, ← ha]
      exact so_sub h1 (Nat.le_refl _) (by omega)
    · have h4 : q + 1 ≤ c := by
        by_cases h5 : c < q
        · have h1 : (c + 1) * (2 * w) ≤ q * (2 * w) := Nat.mul_le_mul_right _ h5
          rw [Nat.succ_mul] at h1
          omega
        · omega
      have h1 : (q + 1) * (2 * w) ≤ c * (2 * w) := Nat.mul_le_mul_right _ h4
      rw [Nat.succ_mul] at h1
      intro i j g1 g2 g3
      exact absurd g3 (by omega)

def nfl (κ : Nat → Int) (j : Nat) : Bool := !fl κ j
def kf (f : Nat → Int64) : Nat → Int := fun i => ky (f i)
/-- how long the run is that is found at a -/
def fnd (κ : Nat → Int) (a n : Nat) : Nat := if cnt (fl κ) (a + 1) (n - (a + 1)) = 0 then 1 + cnt (nfl κ) (a + 1) (n - (a + 1)) else 1 + cnt (fl κ) (a + 1) (n - (a + 1))
theorem fnd_in (κ : Nat → Int) {a n : Nat} (h : a < n) : 1 ≤ fnd κ a n ∧ a + fnd κ a n ≤ n := by
  unfold fnd
  have h1 := cnt_le (P := fl κ) (n - (a + 1)) (a + 1)
  have h2 := cnt_le (P := nfl κ) (n - (a + 1)) (a + 1)
  split <;> omega
theorem fnd_congr {κ κ' : Nat → Int} {a n : Nat} (h : ∀ j, a ≤ j → j < n → κ j = κ' j) : fnd κ a n = fnd κ' a n := by
  have h1 : ∀ j, a + 1 ≤ j → j < (a + 1) + (n - (a + 1)) → fl κ j = fl κ' j := by
    intro j g1 g2
    unfold fl
    rw [h j (by omega) (by omega), h (j - 1) (by omega) (by omega)]
  unfold fnd
  rw [cnt_congr _ _ h1, cnt_congr (P := nfl κ) (P' := nfl κ') _ _ (fun j g1 g2 => by unfold nfl; rw [h1 j g1 g2])]
/-- g is f, the places a .. b - 1 sorted, equal keys as they were -/
def okp (f g : Nat → Int64) (a b : Nat) : Prop := (∀ j, (j < a ∨ b ≤ j) → g j = f j) ∧ so ky g a b ∧ sE ky (sg g a b) (sg f a b)
theorem okp_trans {f g h : Nat → Int64} {a b c : Nat} (hab : a ≤ b) (hbc : b ≤ c) (h1 : okp f g a b) (h2 : okp g h a c) : okp f h a c := by
  obtain ⟨a1, a2, a3⟩ := h1
  obtain ⟨b1, b2, b3⟩ := h2
  refine ⟨fun j hj => ?_, b2, sE_trans b3 ?_⟩
  · rw [b1 j hj]; exact a1 j (by omega)
  · exact sE_in (Nat.le_refl a) hab hbc (fun j q1 q2 => absurd q2 (by omega)) (fun j q1 _ => a1 j (Or.inr q1)) a3
theorem okp_up {f : Nat → Int64} {a n : Nat} (h : cnt (fl (kf f)) (a + 1) (n - (a + 1)) = 0) : okp f f a (a + fnd (kf f) a n) := by
  refine ⟨fun _ _ => rfl, so_step (fun i h1 h2 => ?_), sE_refl _⟩
  unfold fnd at h2
  rw [if_pos h] at h2
  have h3 := cnt_all (P := nfl (kf f)) (n - (a + 1)) (a + 1) (i + 1) (by omega) (by omega)
  simp only [nfl, fl, Bool.not_eq_true', decide_eq_false_iff_not, Nat.add_sub_cancel] at h3
  exact Int.not_lt.mp h3
theorem okp_dn {f : Nat → Int64} {a n : Nat} (h : cnt (fl (kf f)) (a + 1) (n - (a + 1)) ≠ 0) : okp f (trF f a (fnd (kf f) a n)) a (a + fnd (kf f) a n) := by
  have e : fnd (kf f) a n = 1 + cnt (fl (kf f)) (a + 1) (n - (a + 1)) := by unfold fnd; rw [if_neg h]
  generalize hr : fnd (kf f) a n = r at *
  have hs : ∀ i, a ≤ i → i + 1 < a + r → ky (f (i + 1)) < ky (f i) := by
    intro i h1 h2
    have h3 := cnt_all (P := fl (kf f)) (n - (a + 1)) (a + 1) (i + 1) (by omega) (by omega)
    have h4 : kf f (i + 1) < kf f i := by simpa only [fl, decide_eq_true_eq, Nat.add_sub_cancel] using h3
    exact h4
  have hf : ∀ i j, a ≤ i → i < j → j < a + r → ky (f j) < ky (f i) := by
    intro i j h1 h2 h3
    obtain ⟨d, rfl⟩ : ∃ d, j = i + 1 + d := ⟨j - (i + 1), by omega⟩
    clear h2
    induction d with
    | zero => exact hs i h1 h3
    | succ d ih => exact Int.lt_trans (hs (i + 1 + d) (by omega) h3) (ih (by omega))
  refine ⟨fun j hj => ?_, fun i j h1 h2 h3 => ?_, sE_turn (fun i j h1 h2 h3 => hf i j h1 h2 h3) (fun j h1 h2 => ?_)⟩
  · unfold trF
    rw [if_neg (by omega)]
  · unfold trF
    rw [if_pos (by omega), if_pos (by omega)]
    exact Int.le_of_lt (hf _ _ (by omega) (by omega) (by omega))
  · unfold trF
    rw [if_pos (by omega)]
    congr 1
    omega
theorem okp_ins {f : Nat → Int64} {a p t : Nat} (h1 : a ≤ t) (h2 : t ≤ p) (hs : so ky f a p) (hl : ∀ j, a ≤ j → j < t → ky (f j) ≤ ky (f p)) (hg : ∀ j, t ≤ j → j < p → ky (f p) < ky (f j)) : okp f (uN_up (va_cpy f f t (t + 1) (p - t)) t (f p)) a (p + 1) := by
  have e0 : ∀ j, j < t → uN_up (va_cpy f f t (t + 1) (p - t)) t (f p) j = f j := fun j hj => by rw [up_n (by omega), pk_cpy_out (Or.inl (by omega))]
  have e1 : uN_up (va_cpy f f t (t + 1) (p - t)) t (f p) t = f p := up_s _ _ _
  have e2 : ∀ j, t ≤ j → j < p → uN_up (va_cpy f f t (t + 1) (p - t)) t (f p) (j + 1) = f j := fun j g1 g2 => by
    rw [up_n (by omega), pk_cpy_in (by omega) (by omega)]
    congr 1
    omega
  have e3 : ∀ j, p + 1 ≤ j → uN_up (va_cpy f f t (t + 1) (p - t)) t (f p) j = f j := fun j g1 => by rw [up_n (by omega), pk_cpy_out (Or.inr (by omega))]
  generalize uN_up (va_cpy f f t (t + 1) (p - t)) t (f p) = g at *
  refine ⟨fun j hj => ?_, fun i j g1 g2 g3 => ?_, ?_⟩
  · rcases hj with hj | hj
    · exact e0 j (by omega)
    · exact e3 j hj
  · by_cases hi : i < t
    · rw [e0 i hi]
      by_cases hj : j < t
      · rw [e0 j hj]; exact hs i j g1 g2 (by omega)
      · by_cases hj2 : j = t
        · rw [hj2, e1]; exact hl i g1 hi
        · obtain ⟨d, rfl⟩ : ∃ d, j = d + 1 := ⟨j - 1, by omega⟩
          rw [e2 d (by omega) (by omega)]; exact hs i d g1 (by omega) (by omega)
    · by_cases hi2 : i = t
      · obtain ⟨d, rfl⟩ : ∃ d, j = d + 1 := ⟨j - 1, by omega⟩
        rw [hi2, e1, e2 d (by omega) (by omega)]
        exact Int.le_of_lt (hg d (by omega) (by omega))
      · obtain ⟨d, rfl⟩ : ∃ d, j = d + 1 := ⟨j - 1, by omega⟩
        obtain ⟨b, rfl⟩ : ∃ b, i = b + 1 := ⟨i - 1, by omega⟩
        rw [e2 b (by omega) (by omega), e2 d (by omega) (by omega)]
        exact hs b d (by omega) (by omega) (by omega)
  · exact sE_in h1 (show t ≤ p + 1 by omega) (Nat.le_refl _) (fun j _ q => e0 j q) (fun j q1 q2 => absurd q2 (by omega)) (sE_left h2 e1 e2 hg)
abbrev rmX1_keyOf : Room := { frames := 0, cells := 0, slots := 0, locals := 0 }
set_option maxRecDepth 100000 in
set_option maxHeartbeats 4000000 in
theorem c_X1_keyOf (l : Launch) (dC : Nat → ClassId) (dI : Nat → Nat → Nat) (cJ cI : ClassId) (x : Int64)  : CI l yX1_keyOf wsX1_keyOf rmX1_keyOf [.long x] (dC, dI) vwCl (KT cJ cI) [] (S := Unit) (fun r _ => r = kyI x) (fun _ => KT cJ cI) (fun _ => []) := by
  refine CI.mk (by decide) rfl (Nat.le_of_ble_eq_true rfl) ?_
  intro p e s m args below meth c A Q ls hx hb hml hown hts hA hS hP hD hK hN hl hret
  have hl : lv_has ls 2 [(0, .long x)] := hl
  refine lv_lload_n hx hb dX1_keyOf_0 rfl (lv_at hl 0 rfl) ?_
  refine lv_bipush (v := nI 32) hx hb dX1_keyOf_1 (by decide) ?_
  refine lv_lshr hx hb dX1_keyOf_3 rfl ?_
  refine lv_l2i hx hb dX1_keyOf_4 rfl ?_
  exact hret () _ _ _ _ _ _ _ (rfl) hP hK hD hS (Nat.le_of_ble_eq_true rfl) (Nat.le_of_ble_eq_true rfl) (rfl) dX1_keyOf_5
abbrev rmX1_tagOf : Room := { frames := 0, cells := 0, slots := 0, locals := 0 }
set_option maxRecDepth 100000 in
set_option maxHeartbeats 4000000 in
theorem c_X1_tagOf (l : Launch) (dC : Nat → ClassId) (dI : Nat → Nat → Nat) (cJ cI : ClassId) (x : Int64)  : CI l yX1_tagOf wsX1_tagOf rmX1_tagOf [.long x] (dC, dI) vwCl (KT cJ cI) [] (S := Unit) (fun r _ => r = tgI x) (fun _ => KT cJ cI) (fun _ => []) := by
  refine CI.mk (by decide) rfl (Nat.le_of_ble_eq_true rfl) ?_
  intro p e s m args below meth c A Q ls hx hb hml hown hts hA hS hP hD hK hN hl hret
  have hl : lv_has ls 2 [(0, .long x)] := hl
  refine lv_lload_n hx hb dX1_tagOf_0 rfl (lv_at hl 0 rfl) ?_
  refine lv_l2i hx hb dX1_tagOf_1 rfl ?_
  exact hret () _ _ _ _ _ _ _ (rfl) hP hK hD hS (Nat.le_of_ble_eq_true rfl) (Nat.le_of_ble_eq_true rfl) (rfl) dX1_tagOf_2
abbrev rmX1_pairOf : Room := { frames := 0, cells := 0, slots := 0, locals := 0 }
set_option maxRecDepth 100000 in
set_option maxHeartbeats 4000000 in
theorem c_X1_pairOf (l : Launch) (dC : Nat → ClassId) (dI : Nat → Nat → Nat) (cJ cI : ClassId) (a b : Int32)  : CL l yX1_pairOf wsX1_pairOf rmX1_pairOf [.int a, .int b] (dC, dI) vwCl (KT cJ cI) [] (S := Unit) (fun r _ => r = prI a b) (fun _ => KT cJ cI) (fun _ => []) := by
  refine CL.mk (by decide) rfl (Nat.le_of_ble_eq_true rfl) ?_
  intro p e s m args below meth c A Q ls hx hb hml hown hts hA hS hP hD hK hN hl hret
  have hl : lv_has ls 2 [(0, .int a), (1, .int b)] := hl
  have k_1 := hts (Cond.constantLong RX1 105 (4294967295)) (by decide +kernel)
  refine lv_iload_n hx hb dX1_pairOf_0 rfl (lv_at hl 0 rfl) ?_
  refine lv_i2l hx hb dX1_pairOf_1 rfl ?_
  refine lv_bipush (v := nI 32) hx hb dX1_pairOf_2 (by decide) ?_
  refine lv_lshl hx hb dX1_pairOf_4 rfl ?_
  refine lv_iload_n hx hb dX1_pairOf_5 rfl (lv_at hl 1 rfl) ?_
  refine lv_i2l hx hb dX1_pairOf_6 rfl ?_
  refine lv_ldc2 hx hb hown k_1 dX1_pairOf_7 ?_
  refine lv_land hx hb dX1_pairOf_10 ?_
  refine lv_lor hx hb dX1_pairOf_11 ?_
  exact hret () _ _ _ _ _ _ _ (rfl) hP hK hD hS (Nat.le_of_ble_eq_true rfl) (Nat.le_of_ble_eq_true rfl) dX1_pairOf_12
abbrev rmX1_isPlace : Room := { frames := 0, cells := 0, slots := 0, locals := 0 }
set_option maxRecDepth 100000 in
set_option maxHeartbeats 4000000 in
theorem c_X1_isPlace (l : Launch) (dC : Nat → ClassId) (dI : Nat → Nat → Nat) (cJ cI : ClassId) (o oP oA oL oR n ru me gh : Nat) (mp : Int64) (i : Int32) (hn : n ≤ 4096) : CI l yX1_isPlace wsX1_isPlace rmX1_isPlace [.ref o, .int i] (dC, dI) vwCl (KT cJ cI) [(o, .inr (1, [.ref oP, .int (nI n), .ref oA, .ref oL, .ref oR, .int (nI ru), .int (nI me), .long mp, .int (nI gh)]))] (S := Unit) (fun r _ => (r = nI 1 ∧ ∃ j, j < n ∧ i = nI j) ∨ (r = nI 0 ∧ ¬ ∃ j, j < n ∧ i = nI j)) (fun _ => KT cJ cI) (fun _ => [(o, .inr (1, [.ref oP, .int (nI n), .ref oA, .ref oL, .ref oR, .int (nI ru), .int (nI me), .long mp, .int (nI gh)]))]) := by
  refine CI.mk (by decide) rfl (Nat.le_of_ble_eq_true rfl) ?_
  intro p e s m args below meth c A Q ls hx hb hml hown hts hA hS hP hD hK hN hl hret
  have hl : lv_has ls 2 [(0, .ref o), (1, .int i)] := hl
  have hin_1 : ∀ w ∈ u_ws RX1 TX1 9, w ∈ wsX1_isPlace := by decide +kernel
  have k_1 := hts (Cond.fieldLink RX1 38 "PairSorter" "size" "I") (by decide +kernel)
  refine lv_iload_n hx hb dX1_isPlace_0 rfl (lv_at hl 1 rfl) ?_
  refine lv_if_lt (tgt := 16) hx hb dX1_isPlace_1 (by decide) (fun c_1 => ?_) (fun c_1 => ?_)
  · have hans : ¬ ∃ j, j < n ∧ i = nI j := by rintro ⟨j, hj, rfl⟩; exact nI_pos (by omega) c_1
    refine lv_iconst (v := nI 0) hx hb dX1_isPlace_16 (by decide) ?_
    exact hret () _ _ _ _ _ _ _ (Or.inr ⟨rfl, hans⟩) hP hK hD hS (Nat.le_of_ble_eq_true rfl) (Nat.le_of_ble_eq_true rfl) (rfl) dX1_isPlace_17
  · obtain ⟨q, hq, rfl⟩ := nI_of c_1
    refine lv_iload_n hx hb dX1_isPlace_4 rfl (lv_at hl 1 rfl) ?_
    refine lv_aload_n hx hb dX1_isPlace_5 rfl (lv_at hl 0 rfl) ?_
    refine va_get (D := (dC, dI)) (ci := 1) (v := .int (nI n)) (C := RX1) (T := TX1) (N := 9) hx hb hts hin_1 hown hK hP 0 rfl rfl 1 (by decide) k_1 (fun _ h9 => h9) rfl dX1_isPlace_6 ?_
    refine xr_icmp_ge (tgt := 16) hx hb dX1_isPlace_9 (by decide) (by omega) (by omega) (fun c_9 => ?_) (fun c_9 => ?_)
    · have hans : ¬ ∃ j, j < n ∧ nI q = nI j := by rintro ⟨j, hj, e9⟩; have := (nI_eq hq (by omega)).mp e9; omega
      refine lv_iconst (v := nI 0) hx hb dX1_isPlace_16 (by decide) ?_
      exact hret () _ _ _ _ _ _ _ (Or.inr ⟨rfl, hans⟩) hP hK hD hS (Nat.le_of_ble_eq_true rfl) (Nat.le_of_ble_eq_true rfl) (rfl) dX1_isPlace_17
    · have hans : ∃ j, j < n ∧ nI q = nI j := ⟨q, c_9, rfl⟩
      refine lv_iconst (v := nI 1) hx hb dX1_isPlace_12 (by decide) ?_
      refine lv_goto (tgt := 17) hx hb dX1_isPlace_13 (by decide) ?_
      exact hret () _ _ _ _ _ _ _ (Or.inl ⟨rfl, hans⟩) hP hK hD hS (Nat.le_of_ble_eq_true rfl) (Nat.le_of_ble_eq_true rfl) (rfl) dX1_isPlace_17
abbrev rmX1_fallsAt : Room := { frames := 1, cells := 0, slots := 0, locals := 21 }
set_option maxRecDepth 100000 in
set_option maxHeartbeats 4000000 in
theorem c_X1_fallsAt (l : Launch) (dC : Nat → ClassId) (dI : Nat → Nat → Nat) (cJ cI : ClassId) (o oP oA oL oR C n ru me gh : Nat) (mp : Int64) (f : Nat → Int64) (j : Nat) (h1 : 1 ≤ j) (h2 : j < C) (hC : C ≤ 4096) : CI l yX1_fallsAt wsX1_fallsAt rmX1_fallsAt [.ref o, .int (nI j)] (dC, dI) vwCl (KT cJ cI) [(o, .inr (1, [.ref oP, .int (nI n), .ref oA, .ref oL, .ref oR, .int (nI ru), .int (nI me), .long mp, .int (nI gh)])), (oP, .inl (cJ, C, .inr (.inl f)))] (S := Unit) (fun r _ => (r = nI 1 ∧ fl (kf f) j = true) ∨ (r = nI 0 ∧ fl (kf f) j = false)) (fun _ => KT cJ cI) (fun _ => [(o, .inr (1, [.ref oP, .int (nI n), .ref oA, .ref oL, .ref oR, .int (nI ru), .int (nI me), .long mp, .int (nI gh)])), (oP, .inl (cJ, C, .inr (.inl f)))]) := by
  refine CI.mk (by decide) rfl (Nat.le_of_ble_eq_true rfl) ?_
  intro p e s m args below meth c A Q ls hx hb hml hown hts hA hS hP hD hK hN hl hret
  have hl : lv_has ls 2 [(0, .ref o), (1, .int (nI j))] := hl
  have hin_1 : ∀ w ∈ u_ws RX1 TX1 9, w ∈ wsX1_fallsAt := by decide +kernel
  have k_1 := hts (Cond.fieldLink RX1 18 "PairSorter" "pairs" "[J") (by decide +kernel)
  refine lv_aload_n hx hb dX1_fallsAt_0 rfl (lv_at hl 0 rfl) ?_
  refine va_get (D := (dC, dI)) (ci := 1) (v := .ref oP) (C := RX1) (T := TX1) (N := 9) hx hb hts hin_1 hown hK hP 0 rfl rfl 0 (by decide) k_1 (fun _ h9 => h9) rfl dX1_fallsAt_1 ?_
  refine lv_iload_n hx hb dX1_fallsAt_4 rfl (lv_at hl 1 rfl) ?_
  refine xr_lald hx hb hK hP 1 0 rfl rfl (by omega) (by omega) dX1_fallsAt_5 ?_
  refine call_S_I (As := [.long (f j)]) (rest := []) (wr := [(o, .inr (1, [.ref oP, .int (nI n), .ref oA, .ref oL, .ref oR, .int (nI ru), .int (nI me), .long mp, .int (nI gh)])), (oP, .inl (cJ, C, .inr (.inl f)))]) ⟨hx, hb, hml, hown, hts⟩ (c_X1_keyOf l dC dI cJ cI (f j)) (va_cwS 1 hts gX1_fallsAt_X1_keyOf rfl rfl rfl (by decide +kernel) ⟨Nat.le_of_ble_eq_true rfl, Nat.le_of_ble_eq_true rfl⟩) hP hD hK hN hS hA [] [0, 1] [0, 1] rfl rfl rfl (by decide) (by decide) (by decide) rfl hl.1 rfl (Nat.le_of_ble_eq_true rfl) dX1_fallsAt_6 (Nat.le_of_ble_eq_true rfl) (Nat.le_of_ble_eq_true rfl) (fun r_6 u_6 H locs hw_6 hP hD hK1 hS => ?_)
  refine W.widen (k := 0) (n := 0) (Nat.le_of_ble_eq_true rfl) (Nat.le_of_ble_eq_true rfl) ?_
  have hP : va_P (dC, dI) vwCl [(o, .inr (1, [.ref oP, .int (nI n), .ref oA, .ref oL, .ref oR, .int (nI ru), .int (nI me), .long mp, .int (nI gh)])), (oP, .inl (cJ, C, .inr (.inl f)))] H := ct_Psub hP [0, 1] rfl
  have hD : va_D A [(o, .inr (1, [.ref oP, .int (nI n), .ref oA, .ref oL, .ref oR, .int (nI ru), .int (nI me), .long mp, .int (nI gh)])), (oP, .inl (cJ, C, .inr (.inl f)))] := hD.sub [0, 1] (by decide) rfl
  refine xr_top (y := kyI (f j)) (hw_6) ?_
  refine lv_aload_n hx hb dX1_fallsAt_9 rfl (lv_at hl 0 rfl) ?_
  refine va_get (D := (dC, dI)) (ci := 1) (v := .ref oP) (C := RX1) (T := TX1) (N := 9) hx hb hts hin_1 hown hK hP 0 rfl rfl 0 (by decide) k_1 (fun _ h9 => h9) rfl dX1_fallsAt_10 ?_
  refine lv_iload_n hx hb dX1_fallsAt_13 rfl (lv_at hl 1 rfl) ?_
  refine lv_iconst (v := nI 1) hx hb dX1_fallsAt_14 (by decide) ?_
  refine xr_isub hx hb dX1_fallsAt_15 (by omega) ?_
  refine xr_lald hx hb hK hP 1 0 rfl rfl (by omega) (by omega) dX1_fallsAt_16 ?_
  refine call_S_I (As := [.long (f (j - 1))]) (rest := [.int (kyI (f j))]) (wr := [(o, .inr (1, [.ref oP, .int (nI n), .ref oA, .ref oL, .ref oR, .int (nI ru), .int (nI me), .long mp, .int (nI gh)])), (oP, .inl (cJ, C, .inr (.inl f)))]) ⟨hx, hb, hml, hown, hts⟩ (c_X1_keyOf l dC dI cJ cI (f (j - 1))) (va_cwS 1 hts gX1_fallsAt_X1_keyOf rfl rfl rfl (by decide +kernel) ⟨Nat.le_of_ble_eq_true rfl, Nat.le_of_ble_eq_true rfl⟩) hP hD hK hN hS hA [] [0, 1] [0, 1] rfl rfl rfl (by decide) (by decide) (by decide) rfl hl.1 rfl (Nat.le_of_ble_eq_true rfl) dX1_fallsAt_17 (Nat.le_of_ble_eq_true rfl) (Nat.le_of_ble_eq_true rfl) (fun r_17 u_17 H locs hw_17 hP hD hK1 hS => ?_)
  refine W.widen (k := 0) (n := 0) (Nat.le_of_ble_eq_true rfl) (Nat.le_of_ble_eq_true rfl) ?_
  have hP : va_P (dC, dI) vwCl [(o, .inr (1, [.ref oP, .int (nI n), .ref oA, .ref oL, .ref oR, .int (nI ru), .int (nI me), .long mp, .int (nI gh)])), (oP, .inl (cJ, C, .inr (.inl f)))] H := ct_Psub hP [0, 1] rfl
  have hD : va_D A [(o, .inr (1, [.ref oP, .int (nI n), .ref oA, .ref oL, .ref oR, .int (nI ru), .int (nI me), .long mp, .int (nI gh)])), (oP, .inl (cJ, C, .inr (.inl f)))] := hD.sub [0, 1] (by decide) rfl
  refine xr_top (y := kyI (f (j - 1))) (hw_17) ?_
  refine lv_icmp_ge (tgt := 27) hx hb dX1_fallsAt_20 (by decide) (fun c_20 => ?_) (fun c_20 => ?_)
  · have hans : fl (kf f) j = false := decide_eq_false (Int.not_lt.mpr (Int32.le_iff_toInt_le.mp c_20))
    refine lv_iconst (v := nI 0) hx hb dX1_fallsAt_27 (by decide) ?_
    exact hret () _ _ _ _ _ _ _ (Or.inr ⟨rfl, hans⟩) hP hK hD hS (Nat.le_of_ble_eq_true rfl) (Nat.le_of_ble_eq_true rfl) (rfl) dX1_fallsAt_28
  · have hans : fl (kf f) j = true := decide_eq_true (Int.not_le.mp (fun q => c_20 (Int32.le_iff_toInt_le.mpr q)))
    refine lv_iconst (v := nI 1) hx hb dX1_fallsAt_23 (by decide) ?_
    refine lv_goto (tgt := 28) hx hb dX1_fallsAt_24 (by decide) ?_
    exact hret () _ _ _ _ _ _ _ (Or.inl ⟨rfl, hans⟩) hP hK hD hS (Nat.le_of_ble_eq_true rfl) (Nat.le_of_ble_eq_true rfl) (rfl) dX1_fallsAt_28
abbrev rmX1_countNotFalling : Room := { frames := 2, cells := 0, slots := 0, locals := 42 }
set_option maxRecDepth 100000 in
set_option maxHeartbeats 4000000 in
theorem c_X1_countNotFalling (l : Launch) (dC : Nat → ClassId) (dI : Nat → Nat → Nat) (cJ cI : ClassId) (o oP oA oL oR C n ru me gh : Nat) (mp : Int64) (f : Nat → Int64) (a : Nat) (ha : a < n) (hn : n ≤ C) (hC : C ≤ 4096) : CI l yX1_countNotFalling wsX1_countNotFalling rmX1_countNotFalling [.ref o, .int (nI a)] (dC, dI) vwCl (KT cJ cI) [(o, .inr (1, [.ref oP, .int (nI n), .ref oA, .ref oL, .ref oR, .int (nI ru), .int (nI me), .long mp, .int (nI gh)])), (oP, .inl (cJ, C, .inr (.inl f)))] (S := Unit) (fun r _ => r = nI (1 + cnt (nfl (kf f)) (a + 1) (n - (a + 1)))) (fun _ => KT cJ cI) (fun _ => [(o, .inr (1, [.ref oP, .int (nI n), .ref oA, .ref oL, .ref oR, .int (nI ru), .int (nI me), .long mp, .int (nI gh)])), (oP, .inl (cJ, C, .inr (.inl f)))]) := by
  refine CI.mk (by decide) rfl (Nat.le_of_ble_eq_true rfl) ?_
  intro p e s m args below meth c A Q ls hx hb hml hown hts hA hS hP hD hK hN hl hret
  have hl : lv_has ls 3 [(0, .ref o), (1, .int (nI a))] := hl
  have hin_1 : ∀ w ∈ u_ws RX1 TX1 9, w ∈ wsX1_countNotFalling := by decide +kernel
  have k_1 := hts (Cond.fieldLink RX1 38 "PairSorter" "size" "I") (by decide +kernel)
  refine lv_iload_n hx hb dX1_countNotFalling_0 rfl (lv_at hl 1 rfl) ?_
  refine lv_iconst (v := nI 1) hx hb dX1_countNotFalling_1 (by decide) ?_
  refine xr_iadd hx hb dX1_countNotFalling_2 ?_
  refine lv_istore_n (lv' := [(2, .int (nI (a + 1))), (0, .ref o), (1, .int (nI a))]) hx hb dX1_countNotFalling_3 rfl hl (by decide) rfl (fun ls hl => ?_)
  have L_q : ∀ (kq : Nat) (i : Nat), (a + 1 ≤ i) → (i ≤ n) → (i - a + cnt (nfl (kf f)) i (n - i) = 1 + cnt (nfl (kf f)) (a + 1) (n - (a + 1))) → n - i < kq → ∀ (H : Heap) (locs : List Loc) (ls : Array Slot), va_P (dC, dI) vwCl [(o, .inr (1, [.ref oP, .int (nI n), .ref oA, .ref oL, .ref oR, .int (nI ru), .int (nI me), .long mp, .int (nI gh)])), (oP, .inl (cJ, C, .inr (.inl f)))] H → va_D A [(o, .inr (1, [.ref oP, .int (nI n), .ref oA, .ref oL, .ref oR, .int (nI ru), .int (nI me), .long mp, .int (nI gh)])), (oP, .inl (cJ, C, .inr (.inl f)))] → va_S A s.heap H locs → lv_has ls 3 [(2, .int (nI i)), (0, .ref o), (1, .int (nI a))] → W p l e rmX1_countNotFalling s m args below meth c H locs 0 0 Q (F0 m 4 ls []) := by
    intro kq
    induction kq with
    | zero =>
      intro i h1 h2 h3 hm
      exact absurd hm (Nat.not_lt_zero _)
    | succ kq ih_q =>
      intro i h1 h2 h3 hm H locs ls hP hD hS hl
      refine lv_iload_n hx hb dX1_countNotFalling_4 rfl (lv_at hl 0 rfl) ?_
      refine lv_aload_n hx hb dX1_countNotFalling_5 rfl (lv_at hl 1 rfl) ?_
      refine va_get (D := (dC, dI)) (ci := 1) (v := .int (nI n)) (C := RX1) (T := TX1) (N := 9) hx hb hts hin_1 hown hK hP 0 rfl rfl 1 (by decide) k_1 (fun _ h9 => h9) rfl dX1_countNotFalling_6 ?_
      refine xr_icmp_ge (tgt := 26) hx hb dX1_countNotFalling_9 (by decide) (by omega) (by omega) (fun c_9 => ?_) (fun c_9 => ?_)
      · have hi : i = n := by omega
        rw [hi, Nat.sub_self] at h3
        rw [show cnt (nfl (kf f)) n 0 = 0 from rfl] at h3
        refine lv_iload_n hx hb dX1_countNotFalling_26 rfl (lv_at hl 0 rfl) ?_
        refine lv_iload_n hx hb dX1_countNotFalling_27 rfl (lv_at hl 2 rfl) ?_
        refine xr_isub hx hb dX1_countNotFalling_28 (by omega) ?_
        exact hret () _ _ _ _ _ _ _ (congrArg nI (by omega)) hP hK hD hS (Nat.le_of_ble_eq_true rfl) (Nat.le_of_ble_eq_true rfl) (rfl) dX1_countNotFalling_29
      · refine lv_aload_n hx hb dX1_countNotFalling_12 rfl (lv_at hl 1 rfl) ?_
        refine lv_iload_n hx hb dX1_countNotFalling_13 rfl (lv_at hl 0 rfl) ?_
        refine call_V_I (As := [.int (nI i)]) (rest := []) (wr := []) ⟨hx, hb, hml, hown, hts⟩ (c_X1_fallsAt l dC dI cJ cI o oP oA oL oR C n ru me gh mp f i (by omega) (by omega) hC) (cwV 1 hts gX1_countNotFalling_X1_fallsAt rfl rfl rfl (by decide +kernel) ⟨Nat.le_of_ble_eq_true rfl, Nat.le_of_ble_eq_true rfl⟩) hP hD hK hN hS hA [0, 1] [] [0, 1] rfl rfl rfl (by decide) (by decide) (by decide) 0 1 rfl rfl rfl rfl hl.1 rfl (Nat.le_of_ble_eq_true rfl) dX1_countNotFalling_14 (Nat.le_of_ble_eq_true rfl) (Nat.le_of_ble_eq_true rfl) (fun r_14 u_14 H locs hw_14 hP hD hK1 hS => ?_)
        refine W.widen (k := 0) (n := 0) (Nat.le_of_ble_eq_true rfl) (Nat.le_of_ble_eq_true rfl) ?_
        have hP : va_P (dC, dI) vwCl [(o, .inr (1, [.ref oP, .int (nI n), .ref oA, .ref oL, .ref oR, .int (nI ru), .int (nI me), .long mp, .int (nI gh)])), (oP, .inl (cJ, C, .inr (.inl f)))] H := ct_Psub hP [0, 1] rfl
        have hD : va_D A [(o, .inr (1, [.ref oP, .int (nI n), .ref oA, .ref oL, .ref oR, .int (nI ru), .int (nI me), .long mp, .int (nI gh)])), (oP, .inl (cJ, C, .inr (.inl f)))] := hD.sub [0, 1] (by decide) rfl
        rcases hw_14 with ⟨rfl, hf⟩ | ⟨rfl, hf⟩
        · have hp : nfl (kf f) i = false := by simp [nfl, hf]
          rw [cnt_f hp] at h3
          refine xr_if_ne (tgt := 26) hx hb dX1_countNotFalling_17 (by decide) (by decide) (fun _ => ?_) (fun c9 => absurd c9 (by decide))
          refine lv_iload_n hx hb dX1_countNotFalling_26 rfl (lv_at hl 0 rfl) ?_
          refine lv_iload_n hx hb dX1_countNotFalling_27 rfl (lv_at hl 2 rfl) ?_
          refine xr_isub hx hb dX1_countNotFalling_28 (by omega) ?_
          exact hret () _ _ _ _ _ _ _ (congrArg nI (by omega)) hP hK hD hS (Nat.le_of_ble_eq_true rfl) (Nat.le_of_ble_eq_true rfl) (rfl) dX1_countNotFalling_29
        · have hp : nfl (kf f) i = true := by simp [nfl, hf]
          rw [cnt_t hp (by omega)] at h3
          rw [show n - i - 1 = n - (i + 1) by omega] at h3
          refine xr_if_ne (tgt := 26) hx hb dX1_countNotFalling_17 (by decide) (by decide) (fun c9 => absurd c9 (by decide)) (fun _ => ?_)
          refine lv_iinc (v := nI (i + 1)) (lv' := [(2, .int (nI (i + 1))), (0, .ref o), (1, .int (nI a))]) hx hb dX1_countNotFalling_20 hl (k := 0) rfl (nI_add i 1) (by decide) rfl (fun ls hl => ?_)
          refine lv_goto (tgt := 4) hx hb dX1_countNotFalling_23 (by decide) ?_
          exact ih_q (i + 1) (by omega) (by omega) (by omega) (by omega) _ _ _ hP hD hS (lv_sub hl [0, 1, 2] rfl)
  exact L_q (_ + 1) (a + 1) (by omega) (by omega) (by omega) (Nat.lt_succ_self _) _ _ _ hP hD hS (lv_sub hl [0, 1, 2] rfl)
abbrev rmX1_countFalling : Room := { frames := 2, cells := 0, slots := 0, locals := 42 }
set_option maxRecDepth 100000 in
set_option maxHeartbeats 4000000 in
theorem c_X1_countFalling (l : Launch) (dC : Nat → ClassId) (dI : Nat → Nat → Nat) (cJ cI : ClassId) (o oP oA oL oR C n ru me gh : Nat) (mp : Int64) (f : Nat → Int64) (a : Nat) (ha : a < n) (hn : n ≤ C) (hC : C ≤ 4096) : CI l yX1_countFalling wsX1_countFalling rmX1_countFalling [.ref o, .int (nI a)] (dC, dI) vwCl (KT cJ cI) [(o, .inr (1, [.ref oP, .int (nI n), .ref oA, .ref oL, .ref oR, .int (nI ru), .int (nI me), .long mp, .int (nI gh)])), (oP, .inl (cJ, C, .inr (.inl f)))] (S := Unit) (fun r _ => r = nI (1 + cnt (fl (kf f)) (a + 1) (n - (a + 1)))) (fun _ => KT cJ cI) (fun _ => [(o, .inr (1, [.ref oP, .int (nI n), .ref oA, .ref oL, .ref oR, .int (nI ru), .int (nI me), .long mp, .int (nI gh)])), (oP, .inl (cJ, C, .inr (.inl f)))]) := by
  refine CI.mk (by decide) rfl (Nat.le_of_ble_eq_true rfl) ?_
  intro p e s m args below meth c A Q ls hx hb hml hown hts hA hS hP hD hK hN hl hret
  have hl : lv_has ls 3 [(0, .ref o), (1, .int (nI a))] := hl
  have hin_1 : ∀ w ∈ u_ws RX1 TX1 9, w ∈ wsX1_countFalling := by decide +kernel
  have k_1 := hts (Cond.fieldLink RX1 38 "PairSorter" "size" "I") (by decide +kernel)
  refine lv_iload_n hx hb dX1_countFalling_0 rfl (lv_at hl 1 rfl) ?_
  refine lv_iconst (v := nI 1) hx hb dX1_countFalling_1 (by decide) ?_
  refine xr_iadd hx hb dX1_countFalling_2 ?_
  refine lv_istore_n (lv' := [(2, .int (nI (a + 1))), (0, .ref o), (1, .int (nI a))]) hx hb dX1_countFalling_3 rfl hl (by decide) rfl (fun ls hl => ?_)
  have L_q : ∀ (kq : Nat) (i : Nat), (a + 1 ≤ i) → (i ≤ n) → (i - a + cnt (fl (kf f)) i (n - i) = 1 + cnt (fl (kf f)) (a + 1) (n - (a + 1))) → n - i < kq → ∀ (H : Heap) (locs : List Loc) (ls : Array Slot), va_P (dC, dI) vwCl [(o, .inr (1, [.ref oP, .int (nI n), .ref oA, .ref oL, .ref oR, .int (nI ru), .int (nI me), .long mp, .int (nI gh)])), (oP, .inl (cJ, C, .inr (.inl f)))] H → va_D A [(o, .inr (1, [.ref oP, .int (nI n), .ref oA, .ref oL, .ref oR, .int (nI ru), .int (nI me), .long mp, .int (nI gh)])), (oP, .inl (cJ, C, .inr (.inl f)))] → va_S A s.heap H locs → lv_has ls 3 [(2, .int (nI i)), (0, .ref o), (1, .int (nI a))] → W p l e rmX1_countFalling s m args below meth c H locs 0 0 Q (F0 m 4 ls []) := by
    intro kq
    induction kq with
    | zero =>
      intro i h1 h2 h3 hm
      exact absurd hm (Nat.not_lt_zero _)
    | succ kq ih_q =>
      intro i h1 h2 h3 hm H locs ls hP hD hS hl
      refine lv_iload_n hx hb dX1_countFalling_4 rfl (lv_at hl 0 rfl) ?_
      refine lv_aload_n hx hb dX1_countFalling_5 rfl (lv_at hl 1 rfl) ?_
      refine va_get (D := (dC, dI)) (ci := 1) (v := .int (nI n)) (C := RX1) (T := TX1) (N := 9) hx hb hts hin_1 hown hK hP 0 rfl rfl 1 (by decide) k_1 (fun _ h9 => h9) rfl dX1_countFalling_6 ?_
      refine xr_icmp_ge (tgt := 26) hx hb dX1_countFalling_9 (by decide) (by omega) (by omega) (fun c_9 => ?_) (fun c_9 => ?_)
      · have hi : i = n := by omega
        rw [hi, Nat.sub_self] at h3
        rw [show cnt (fl (kf f)) n 0 = 0 from rfl] at h3
        refine lv_iload_n hx hb dX1_countFalling_26 rfl (lv_at hl 0 rfl) ?_
        refine lv_iload_n hx hb dX1_countFalling_27 rfl (lv_at hl 2 rfl) ?_
        refine xr_isub hx hb dX1_countFalling_28 (by omega) ?_
        exact hret () _ _ _ _ _ _ _ (congrArg nI (by omega)) hP hK hD hS (Nat.le_of_ble_eq_true rfl) (Nat.le_of_ble_eq_true rfl) (rfl) dX1_countFalling_29
      · refine lv_aload_n hx hb dX1_countFalling_12 rfl (lv_at hl 1 rfl) ?_
        refine lv_iload_n hx hb dX1_countFalling_13 rfl (lv_at hl 0 rfl) ?_
        refine call_V_I (As := [.int (nI i)]) (rest := []) (wr := []) ⟨hx, hb, hml, hown, hts⟩ (c_X1_fallsAt l dC dI cJ cI o oP oA oL oR C n ru me gh mp f i (by omega) (by omega) hC) (cwV 1 hts gX1_countFalling_X1_fallsAt rfl rfl rfl (by decide +kernel) ⟨Nat.le_of_ble_eq_true rfl, Nat.le_of_ble_eq_true rfl⟩) hP hD hK hN hS hA [0, 1] [] [0, 1] rfl rfl rfl (by decide) (by decide) (by decide) 0 1 rfl rfl rfl rfl hl.1 rfl (Nat.le_of_ble_eq_true rfl) dX1_countFalling_14 (Nat.le_of_ble_eq_true rfl) (Nat.le_of_ble_eq_true rfl) (fun r_14 u_14 H locs hw_14 hP hD hK1 hS => ?_)
        refine W.widen (k := 0) (n := 0) (Nat.le_of_ble_eq_true rfl) (Nat.le_of_ble_eq_true rfl) ?_
        have hP : va_P (dC, dI) vwCl [(o, .inr (1, [.ref oP, .int (nI n), .ref oA, .ref oL, .ref oR, .int (nI ru), .int (nI me), .long mp, .int (nI gh)])), (oP, .inl (cJ, C, .inr (.inl f)))] H := ct_Psub hP [0, 1] rfl
        have hD : va_D A [(o, .inr (1, [.ref oP, .int (nI n), .ref oA, .ref oL, .ref oR, .int (nI ru), .int (nI me), .long mp, .int (nI gh)])), (oP, .inl (cJ, C, .inr (.inl f)))] := hD.sub [0, 1] (by decide) rfl
        rcases hw_14 with ⟨rfl, hf⟩ | ⟨rfl, hf⟩
        · have hp : fl (kf f) i = true := by simp [nfl, hf]
          rw [cnt_t hp (by omega)] at h3
          rw [show n - i - 1 = n - (i + 1) by omega] at h3
          refine xr_if_eq (tgt := 26) hx hb dX1_countFalling_17 (by decide) (by decide) (fun c9 => absurd c9 (by decide)) (fun _ => ?_)
          refine lv_iinc (v := nI (i + 1)) (lv' := [(2, .int (nI (i + 1))), (0, .ref o), (1, .int (nI a))]) hx hb dX1_countFalling_20 hl (k := 0) rfl (nI_add i 1) (by decide) rfl (fun ls hl => ?_)
          refine lv_goto (tgt := 4) hx hb dX1_countFalling_23 (by decide) ?_
          exact ih_q (i + 1) (by omega) (by omega) (by omega) (by omega) _ _ _ hP hD hS (lv_sub hl [0, 1, 2] rfl)
        · have hp : fl (kf f) i = false := by simp [nfl, hf]
          rw [cnt_f hp] at h3
          refine xr_if_eq (tgt := 26) hx hb dX1_countFalling_17 (by decide) (by decide) (fun _ => ?_) (fun c9 => absurd c9 (by decide))
          refine lv_iload_n hx hb dX1_countFalling_26 rfl (lv_at hl 0 rfl) ?_
          refine lv_iload_n hx hb dX1_countFalling_27 rfl (lv_at hl 2 rfl) ?_
          refine xr_isub hx hb dX1_countFalling_28 (by omega) ?_
          exact hret () _ _ _ _ _ _ _ (congrArg nI (by omega)) hP hK hD hS (Nat.le_of_ble_eq_true rfl) (Nat.le_of_ble_eq_true rfl) (rfl) dX1_countFalling_29
  exact L_q (_ + 1) (a + 1) (by omega) (by omega) (by omega) (Nat.lt_succ_self _) _ _ _ hP hD hS (lv_sub hl [0, 1, 2] rfl)
abbrev rmX1_turnRound : Room := { frames := 0, cells := 0, slots := 0, locals := 0 }
set_option maxRecDepth 100000 in
set_option maxHeartbeats 4000000 in
theorem c_X1_turnRound (l : Launch) (dC : Nat → ClassId) (dI : Nat → Nat → Nat) (cJ cI : ClassId) (o oP oA oL oR C n ru me gh : Nat) (mp : Int64) (f : Nat → Int64) (a k : Nat) (hk : a + k ≤ C) (hC : C ≤ 4096) : CV l yX1_turnRound wsX1_turnRound rmX1_turnRound [.ref o, .int (nI a), .int (nI k)] (dC, dI) vwCl (KT cJ cI) [(o, .inr (1, [.ref oP, .int (nI n), .ref oA, .ref oL, .ref oR, .int (nI ru), .int (nI me), .long mp, .int (nI gh)])), (oP, .inl (cJ, C, .inr (.inl f)))] (S := Unit) (fun _ => True) (fun _ => KT cJ cI) (fun _ => [(o, .inr (1, [.ref oP, .int (nI n), .ref oA, .ref oL, .ref oR, .int (nI ru), .int (nI me), .long mp, .int (nI gh)])), (oP, .inl (cJ, C, .inr (.inl (trF f a k))))]) := by
  refine CV.mk (by decide) rfl (Nat.le_of_ble_eq_true rfl) ?_
  intro p e s m args below meth c A Q ls hx hb hml hown hts hin hA hS hP hD hK hN hl hret
  have hl : lv_has ls 7 [(0, .ref o), (1, .int (nI a)), (2, .int (nI k))] := hl
  have hin_1 : ∀ w ∈ u_ws RX1 TX1 9, w ∈ wsX1_turnRound := by decide +kernel
  have k_1 := hts (Cond.fieldLink RX1 18 "PairSorter" "pairs" "[J") (by decide +kernel)
  refine lv_iload_n hx hb dX1_turnRound_0 rfl (lv_at hl 1 rfl) ?_
  refine lv_istore_n (lv' := [(3, .int (nI a)), (0, .ref o), (1, .int (nI a)), (2, .int (nI k))]) hx hb dX1_turnRound_1 rfl hl (by decide) rfl (fun ls hl => ?_)
  refine lv_iload_n hx hb dX1_turnRound_2 rfl (lv_at hl 2 rfl) ?_
  refine lv_iload_n hx hb dX1_turnRound_3 rfl (lv_at hl 3 rfl) ?_
  refine xr_iadd hx hb dX1_turnRound_4 ?_
  refine lv_iconst (v := nI 1) hx hb dX1_turnRound_5 (by decide) ?_
  refine lv_isub hx hb dX1_turnRound_6 ?_
  refine xr_top (y := nI (a + k) - nI 1) (rfl) ?_
  refine lv_istore (lv' := [(4, .int (nI (a + k) - nI 1)), (3, .int (nI a)), (0, .ref o), (1, .int (nI a)), (2, .int (nI k))]) hx hb dX1_turnRound_7 hl (by decide) rfl (fun ls hl => ?_)
  have L_t : ∀ (kq : Nat) (i : Nat), (i ≤ k) → (2 * i ≤ k + 1) → k - i < kq → ∀ (H : Heap) (locs : List Loc) (ls : Array Slot), va_P (dC, dI) vwCl [(o, .inr (1, [.ref oP, .int (nI n), .ref oA, .ref oL, .ref oR, .int (nI ru), .int (nI me), .long mp, .int (nI gh)])), (oP, .inl (cJ, C, .inr (.inl (trn f a k i))))] H → va_D A [(o, .inr (1, [.ref oP, .int (nI n), .ref oA, .ref oL, .ref oR, .int (nI ru), .int (nI me), .long mp, .int (nI gh)])), (oP, .inl (cJ, C, .inr (.inl (trn f a k i))))] → va_S A s.heap H locs → lv_has ls 7 [(3, .int (nI (a + i))), (4, .int (nI (a + k - i) - nI 1)), (0, .ref o), (1, .int (nI a)), (2, .int (nI k))] → W p l e rmX1_turnRound s m args below meth c H locs 0 0 Q (F0 m 9 ls []) := by
    intro kq
    induction kq with
    | zero =>
      intro i h1 h2 hm
      exact absurd hm (Nat.not_lt_zero _)
    | succ kq ih_t =>
      intro i h1 h2 hm H locs ls hP hD hS hl
      refine lv_iload_n hx hb dX1_turnRound_9 rfl (lv_at hl 0 rfl) ?_
      refine lv_iload hx hb dX1_turnRound_10 (lv_at hl 1 rfl) ?_
      refine xz_icmp_ge (tgt := 54) hx hb dX1_turnRound_12 (by decide) (zN (t := (a + i)) (by omega)) (zM (t := (a + k - i)) (by omega)) (fun c_12 => ?_) (fun c_12 => ?_)
      · rw [trn_e f (a := a) (c := k) (i := i) (by omega) (by omega)] at hP hD
        exact hret () _ _ _ _ _ _ (trivial) hP hK hD hS (Nat.le_of_ble_eq_true rfl) (Nat.le_of_ble_eq_true rfl) dX1_turnRound_54
      · refine lv_aload_n hx hb dX1_turnRound_15 rfl (lv_at hl 2 rfl) ?_
        refine va_get (D := (dC, dI)) (ci := 1) (v := .ref oP) (C := RX1) (T := TX1) (N := 9) hx hb hts hin_1 hown hK hP 0 rfl rfl 0 (by decide) k_1 (fun _ h9 => h9) rfl dX1_turnRound_16 ?_
        refine lv_iload_n hx hb dX1_turnRound_19 rfl (lv_at hl 0 rfl) ?_
        refine xr_lald hx hb hK hP 1 0 rfl rfl (by omega) (by omega) dX1_turnRound_20 ?_
        refine lv_lstore (lv' := [(5, .long ((trn f a k i) (a + i))), (3, .int (nI (a + i))), (4, .int (nI (a + k - i) - nI 1)), (0, .ref o), (1, .int (nI a)), (2, .int (nI k))]) hx hb dX1_turnRound_21 hl (by decide) rfl (fun ls hl => ?_)
        refine lv_aload_n hx hb dX1_turnRound_23 rfl (lv_at hl 3 rfl) ?_
        refine va_get (D := (dC, dI)) (ci := 1) (v := .ref oP) (C := RX1) (T := TX1) (N := 9) hx hb hts hin_1 hown hK hP 0 rfl rfl 0 (by decide) k_1 (fun _ h9 => h9) rfl dX1_turnRound_24 ?_
        refine lv_iload_n hx hb dX1_turnRound_27 rfl (lv_at hl 1 rfl) ?_
        refine lv_aload_n hx hb dX1_turnRound_28 rfl (lv_at hl 3 rfl) ?_
        refine va_get (D := (dC, dI)) (ci := 1) (v := .ref oP) (C := RX1) (T := TX1) (N := 9) hx hb hts hin_1 hown hK hP 0 rfl rfl 0 (by decide) k_1 (fun _ h9 => h9) rfl dX1_turnRound_29 ?_
        refine lv_iload hx hb dX1_turnRound_32 (lv_at hl 2 rfl) ?_
        refine xr_top (y := nI (a + k - i - 1)) (pk_sub (by omega)) ?_
        refine xr_lald hx hb hK hP 1 0 rfl rfl (by omega) (by omega) dX1_turnRound_34 ?_
        refine xr_last hx hb hK hP hD hS 1 0 rfl rfl (by omega) (by omega) dX1_turnRound_35 (fun H locs hP hD hS => ?_)
        have hP : va_P (dC, dI) vwCl [(o, .inr (1, [.ref oP, .int (nI n), .ref oA, .ref oL, .ref oR, .int (nI ru), .int (nI me), .long mp, .int (nI gh)])), (oP, .inl (cJ, C, .inr (.inl (uN_up (trn f a k i) (a + i) ((trn f a k i) (a + k - i - 1))))))] H := hP
        have hD : va_D A [(o, .inr (1, [.ref oP, .int (nI n), .ref oA, .ref oL, .ref oR, .int (nI ru), .int (nI me), .long mp, .int (nI gh)])), (oP, .inl (cJ, C, .inr (.inl (uN_up (trn f a k i) (a + i) ((trn f a k i) (a + k - i - 1))))))] := hD
        refine lv_aload_n hx hb dX1_turnRound_36 rfl (lv_at hl 3 rfl) ?_
        refine va_get (D := (dC, dI)) (ci := 1) (v := .ref oP) (C := RX1) (T := TX1) (N := 9) hx hb hts hin_1 hown hK hP 0 rfl rfl 0 (by decide) k_1 (fun _ h9 => h9) rfl dX1_turnRound_37 ?_
        refine lv_iload hx hb dX1_turnRound_40 (lv_at hl 2 rfl) ?_
        refine xr_top (y := nI (a + k - i - 1)) (pk_sub (by omega)) ?_
        refine lv_lload hx hb dX1_turnRound_42 (lv_at hl 0 rfl) ?_
        refine xr_last hx hb hK hP hD hS 1 0 rfl rfl (by omega) (by omega) dX1_turnRound_44 (fun H locs hP hD hS => ?_)
        have hP : va_P (dC, dI) vwCl [(o, .inr (1, [.ref oP, .int (nI n), .ref oA, .ref oL, .ref oR, .int (nI ru), .int (nI me), .long mp, .int (nI gh)])), (oP, .inl (cJ, C, .inr (.inl (uN_up (uN_up (trn f a k i) (a + i) ((trn f a k i) (a + k - i - 1))) (a + k - i - 1) ((trn f a k i) (a + i))))))] H := hP
        have hD : va_D A [(o, .inr (1, [.ref oP, .int (nI n), .ref oA, .ref oL, .ref oR, .int (nI ru), .int (nI me), .long mp, .int (nI gh)])), (oP, .inl (cJ, C, .inr (.inl (uN_up (uN_up (trn f a k i) (a + i) ((trn f a k i) (a + k - i - 1))) (a + k - i - 1) ((trn f a k i) (a + i))))))] := hD
        refine lv_iinc (v := nI (a + i + 1)) (lv' := [(3, .int (nI (a + i + 1))), (5, .long ((trn f a k i) (a + i))), (4, .int (nI (a + k - i) - nI 1)), (0, .ref o), (1, .int (nI a)), (2, .int (nI k))]) hx hb dX1_turnRound_45 hl (k := 1) rfl (nI_add (a + i) 1) (by decide) rfl (fun ls hl => ?_)
        refine lv_iinc (v := nI (a + k - i - 1) - nI 1) (lv' := [(4, .int (nI (a + k - i - 1) - nI 1)), (3, .int (nI (a + i + 1))), (5, .long ((trn f a k i) (a + i))), (0, .ref o), (1, .int (nI a)), (2, .int (nI k))]) hx hb dX1_turnRound_48 hl (k := 2) rfl (zMd (by omega)) (by decide) rfl (fun ls hl => ?_)
        refine lv_goto (tgt := 9) hx hb dX1_turnRound_51 (by decide) ?_
        exact ih_t (i + 1) (by omega) (by omega) (by omega) _ _ _ (by rw [← trn_s f (a := a) (c := k) (i := i) (by omega)]; exact hP) (by rw [← trn_s f (a := a) (c := k) (i := i) (by omega)]; exact hD) hS (lv_sub hl [1, 0, 3, 4, 5] rfl)
  exact L_t (_ + 1) 0 (by omega) (by omega) (Nat.lt_succ_self _) _ _ _ (by rw [trn_0]; exact hP) (by rw [trn_0]; exact hD) hS (lv_sub hl [1, 0, 2, 3, 4] rfl)
abbrev rmX1_leastFor : Room := { frames := 0, cells := 0, slots := 0, locals := 0 }
set_option maxRecDepth 100000 in
set_option maxHeartbeats 4000000 in
theorem c_X1_leastFor (l : Launch) (dC : Nat → ClassId) (dI : Nat → Nat → Nat) (cJ cI : ClassId) (n : Nat) (hn : n < 2 ^ 30) : CI l yX1_leastFor wsX1_leastFor rmX1_leastFor [.int (nI n)] (dC, dI) vwCl (KT cJ cI) [] (S := Unit) (fun r _ => r = nI (lsR n 0)) (fun _ => KT cJ cI) (fun _ => []) := by
  refine CI.mk (by decide) rfl (Nat.le_of_ble_eq_true rfl) ?_
  intro p e s m args below meth c A Q ls hx hb hml hown hts hA hS hP hD hK hN hl hret
  have hl : lv_has ls 3 [(0, .int (nI n))] := hl
  refine lv_iload_n hx hb dX1_leastFor_0 rfl (lv_at hl 0 rfl) ?_
  refine lv_istore_n (lv' := [(1, .int (nI n)), (0, .int (nI n))]) hx hb dX1_leastFor_1 rfl hl (by decide) rfl (fun ls hl => ?_)
  refine lv_iconst (v := nI 0) hx hb dX1_leastFor_2 (by decide) ?_
  refine lv_istore_n (lv' := [(2, .int (nI 0)), (1, .int (nI n)), (0, .int (nI n))]) hx hb dX1_leastFor_3 rfl hl (by decide) rfl (fun ls hl => ?_)
  have L_s : ∀ (kq : Nat) (v q : Nat), (v < 2 ^ 30) → (q ≤ 1) → (lsR v q = lsR n 0) → v < kq → ∀ (H : Heap) (locs : List Loc) (ls : Array Slot), va_P (dC, dI) vwCl [] H → va_D A [] → va_S A s.heap H locs → lv_has ls 3 [(1, .int (nI v)), (2, .int (nI q)), (0, .int (nI n))] → W p l e rmX1_leastFor s m args below meth c H locs 0 0 Q (F0 m 4 ls []) := by
    intro kq
    induction kq with
    | zero =>
      intro v q h1 h2 h3 hm
      exact absurd hm (Nat.not_lt_zero _)
    | succ kq ih_s =>
      intro v q h1 h2 h3 hm H locs ls hP hD hS hl
      refine lv_iload_n hx hb dX1_leastFor_4 rfl (lv_at hl 0 rfl) ?_
      refine lv_bipush (v := nI 32) hx hb dX1_leastFor_5 (by decide) ?_
      refine xr_icmp_lt (tgt := 23) hx hb dX1_leastFor_7 (by decide) (by omega) (by omega) (fun c_7 => ?_) (fun c_7 => ?_)
      · refine lv_iload_n hx hb dX1_leastFor_23 rfl (lv_at hl 0 rfl) ?_
        refine lv_iload_n hx hb dX1_leastFor_24 rfl (lv_at hl 1 rfl) ?_
        refine xr_iadd hx hb dX1_leastFor_25 ?_
        exact hret () _ _ _ _ _ _ _ (by rw [← h3, lsR_lt c_7]) hP hK hD hS (Nat.le_of_ble_eq_true rfl) (Nat.le_of_ble_eq_true rfl) (rfl) dX1_leastFor_26
      · refine lv_iload_n hx hb dX1_leastFor_10 rfl (lv_at hl 1 rfl) ?_
        refine lv_iload_n hx hb dX1_leastFor_11 rfl (lv_at hl 0 rfl) ?_
        refine lv_iconst (v := nI 1) hx hb dX1_leastFor_12 (by decide) ?_
        refine xr_iand1 hx hb dX1_leastFor_13 (by omega) ?_
        refine lv_ior hx hb dX1_leastFor_14 ?_
        refine xr_top (y := nI (if q = 1 ∨ v % 2 = 1 then 1 else 0)) (or01 h2 (by omega)) ?_
        refine lv_istore_n (lv' := [(2, .int (nI (if q = 1 ∨ v % 2 = 1 then 1 else 0))), (1, .int (nI v)), (0, .int (nI n))]) hx hb dX1_leastFor_15 rfl hl (by decide) rfl (fun ls hl => ?_)
        refine lv_iload_n hx hb dX1_leastFor_16 rfl (lv_at hl 1 rfl) ?_
        refine lv_iconst (v := nI 1) hx hb dX1_leastFor_17 (by decide) ?_
        refine xr_ishr1 hx hb dX1_leastFor_18 (by omega) ?_
        refine lv_istore_n (lv' := [(1, .int (nI (v / 2))), (2, .int (nI (if q = 1 ∨ v % 2 = 1 then 1 else 0))), (0, .int (nI n))]) hx hb dX1_leastFor_19 rfl hl (by decide) rfl (fun ls hl => ?_)
        refine lv_goto (tgt := 4) hx hb dX1_leastFor_20 (by decide) ?_
        exact ih_s (v / 2) (if q = 1 ∨ v % 2 = 1 then 1 else 0) (by omega) (by split <;> omega) (by rw [← h3, lsR_ge c_7]) (by omega) _ _ _ hP hD hS (lv_sub hl [0, 1, 2] rfl)
  exact L_s (_ + 1) n 0 (by omega) (by omega) rfl (Nat.lt_succ_self _) _ _ _ hP hD hS (lv_sub hl [1, 0, 2] rfl)

/-! THE REFERENCE's own words -/
def gF {α : Type} (g : Nat → α) (n : Nat) (v : Nat → α) (i : Nat) : Nat → α := fun j => if n ≤ j ∧ j < n + i then v (j - n) else g j
theorem gF_0 {α : Type} (g : Nat → α) (n : Nat) (v : Nat → α) : gF g n v 0 = g := by
  funext j
  unfold gF
  rw [if_neg (by omega)]
theorem gF_s {α : Type} (g : Nat → α) (n : Nat) (v : Nat → α) (i : Nat) : uN_up (gF g n v i) (n + i) (v i) = gF g n v (i + 1) := by
  funext j
  by_cases h : j = n + i
  · subst h
    rw [up_s]
    unfold gF
    rw [if_pos (by omega), Nat.add_sub_cancel_left]
  · rw [up_n h]
    unfold gF
    by_cases h2 : n ≤ j ∧ j < n + i
    · rw [if_pos h2, if_pos (by omega)]
    · rw [if_neg h2, if_neg (by omega)]
theorem gF_s0 {α : Type} (g : Nat → α) (v : Nat → α) (i : Nat) : uN_up (gF g 0 v i) i (v i) = gF g 0 v (i + 1) := by
  have := gF_s g 0 v i
  rw [Nat.zero_add] at this
  exact this
theorem gF_in {α : Type} {g : Nat → α} {n : Nat} {v : Nat → α} {i j : Nat} (h1 : n ≤ j) (h2 : j < n + i) : gF g n v i j = v (j - n) := by
  unfold gF
  rw [if_pos ⟨h1, h2⟩]
theorem gF_out {α : Type} {g : Nat → α} {n : Nat} {v : Nat → α} {i j : Nat} (h : j < n ∨ n + i ≤ j) : gF g n v i j = g j := by
  unfold gF
  rw [if_neg (by omega)]
def trG {α : Type} (f : Nat → α) (a c : Nat) : Nat → α := fun j => if a ≤ j ∧ j < a + c then f (a + (c - 1 - (j - a))) else f j
/-- what the second loop of 'turn' reads -/
theorem trG_eq {α : Type} (f u : Nat → α) (a c : Nat) : gF f a (fun j => gF u 0 (fun j => f (a + j)) c (c - 1 - j)) c = trG f a c := by
  funext j
  unfold trG
  by_cases h : a ≤ j ∧ j < a + c
  · rw [if_pos h, gF_in h.1 h.2, gF_in (Nat.zero_le _) (by omega), Nat.sub_zero]
  · rw [if_neg h, gF_out (by omega)]
theorem clamp_le {x : Int32} {i : Nat} (hi : i < 2 ^ 31) : x ≤ nI i ↔ x.toNatClampNeg ≤ i := by
  rw [Int32.le_iff_toInt_le, nI_toInt hi]
  show x.toInt ≤ (i : Int) ↔ x.toInt.toNat ≤ i
  omega
theorem kst (key step : Int32) (i : Nat) : key + nI i * step + step = key + nI (i + 1) * step := by
  rw [nI_succ]
  grind
def kG (K : Nat → Int32) : Nat → Int := fun j => (K j).toInt
abbrev rmX2_put : Room := { frames := 0, cells := 0, slots := 0, locals := 0 }
set_option maxRecDepth 100000 in
set_option maxHeartbeats 4000000 in
theorem c_X2_put (l : Launch) (dC : Nat → ClassId) (dI : Nat → Nat → Nat) (cJ cI : ClassId) (m0 mK mT mU mV mL mS th cap n hi ru me mp pd ht : Nat) (K T : Nat → Int32) (k t : Int32) (hn : n ≤ cap) (hC : cap ≤ 4096) : CI l yX2_put wsX2_put rmX2_put [.ref m0, .int k, .int t] (dC, dI) vwCl (KT cJ cI) [(m0, .inr (2, [.int (nI th), .int (nI cap), .ref mK, .ref mT, .ref mU, .ref mV, .int (nI n), .int (nI hi), .int (nI ru), .ref mL, .int (nI me), .long (lN mp), .ref mS, .int (nI pd), .int (nI ht)])), (mK, .inl (cI, 4096, .inl K)), (mT, .inl (cI, 4096, .inl T))] (S := Nat × (Nat → Int32) × (Nat → Int32)) (fun r u => (n < cap ∧ r = nI 1 ∧ u = (n + 1, uN_up K n k, uN_up T n t)) ∨ (¬ n < cap ∧ r = nI 0 ∧ u = (n, K, T))) (fun _ => KT cJ cI) (fun u => [(m0, .inr (2, [.int (nI 0), .int (nI cap), .ref mK, .ref mT, .ref mU, .ref mV, .int (nI u.1), .int (nI hi), .int (nI ru), .ref mL, .int (nI me), .long (lN mp), .ref mS, .int (nI pd), .int (nI ht)])), (mK, .inl (cI, 4096, .inl u.2.1)), (mT, .inl (cI, 4096, .inl u.2.2))]) := by
  refine CI.mk (by decide) rfl (Nat.le_of_ble_eq_true rfl) ?_
  intro p e s m args below meth c A Q ls hx hb hml hown hts hA hS hP hD hK hN hl hret
  have hl : lv_has ls 3 [(0, .ref m0), (1, .int k), (2, .int t)] := hl
  have hin_2 : ∀ w ∈ u_ws RX2 TX2 15, w ∈ wsX2_put := by decide +kernel
  have k_1 := hts (Cond.fieldLink RX2 32 "PairSorterModel" "thrown" "I") (by decide +kernel)
  have k_2 := hts (Cond.fieldLink RX2 35 "PairSorterModel" "size" "I") (by decide +kernel)
  have k_3 := hts (Cond.fieldLink RX2 28 "PairSorterModel" "cap" "I") (by decide +kernel)
  have k_4 := hts (Cond.fieldLink RX2 7 "PairSorterModel" "keys" "[I") (by decide +kernel)
  have k_5 := hts (Cond.fieldLink RX2 13 "PairSorterModel" "tags" "[I") (by decide +kernel)
  refine lv_aload_n hx hb dX2_put_0 rfl (lv_at hl 0 rfl) ?_
  refine lv_iconst (v := nI 0) hx hb dX2_put_1 (by decide) ?_
  refine va_put (D := (dC, dI)) (ci := 2) (v := .int (nI 0)) (ty := .int) (C := RX2) (T := TX2) (N := 15) hx hb hts hin_2 tyX2 tyX2_ok nmX2 hown hK hP hD hS 0 rfl rfl 0 (by decide) k_1 (fun _ h9 => h9) rfl (by decide +kernel) rfl rfl (Nat.le_of_ble_eq_true rfl) dX2_put_2 (fun H locs hP hD hS => ?_)
  have hP : va_P (dC, dI) vwCl [(m0, .inr (2, [.int (nI 0), .int (nI cap), .ref mK, .ref mT, .ref mU, .ref mV, .int (nI n), .int (nI hi), .int (nI ru), .ref mL, .int (nI me), .long (lN mp), .ref mS, .int (nI pd), .int (nI ht)])), (mK, .inl (cI, 4096, .inl K)), (mT, .inl (cI, 4096, .inl T))] H := hP
  have hD : va_D A [(m0, .inr (2, [.int (nI 0), .int (nI cap), .ref mK, .ref mT, .ref mU, .ref mV, .int (nI n), .int (nI hi), .int (nI ru), .ref mL, .int (nI me), .long (lN mp), .ref mS, .int (nI pd), .int (nI ht)])), (mK, .inl (cI, 4096, .inl K)), (mT, .inl (cI, 4096, .inl T))] := hD
  refine lv_aload_n hx hb dX2_put_5 rfl (lv_at hl 0 rfl) ?_
  refine va_get (D := (dC, dI)) (ci := 2) (v := .int (nI n)) (C := RX2) (T := TX2) (N := 15) hx hb hts hin_2 hown hK hP 0 rfl rfl 6 (by decide) k_2 (fun _ h9 => h9) rfl dX2_put_6 ?_
  refine lv_aload_n hx hb dX2_put_9 rfl (lv_at hl 0 rfl) ?_
  refine va_get (D := (dC, dI)) (ci := 2) (v := .int (nI cap)) (C := RX2) (T := TX2) (N := 15) hx hb hts hin_2 hown hK hP 0 rfl rfl 1 (by decide) k_3 (fun _ h9 => h9) rfl dX2_put_10 ?_
  refine xr_icmp_ne (tgt := 18) hx hb dX2_put_13 (by decide) (by omega) (by omega) (fun c_13 => ?_) (fun c_13 => ?_)
  · refine lv_aload_n hx hb dX2_put_18 rfl (lv_at hl 0 rfl) ?_
    refine va_get (D := (dC, dI)) (ci := 2) (v := .ref mK) (C := RX2) (T := TX2) (N := 15) hx hb hts hin_2 hown hK hP 0 rfl rfl 2 (by decide) k_4 (fun _ h9 => h9) rfl dX2_put_19 ?_
    refine lv_aload_n hx hb dX2_put_22 rfl (lv_at hl 0 rfl) ?_
    refine va_get (D := (dC, dI)) (ci := 2) (v := .int (nI n)) (C := RX2) (T := TX2) (N := 15) hx hb hts hin_2 hown hK hP 0 rfl rfl 6 (by decide) k_2 (fun _ h9 => h9) rfl dX2_put_23 ?_
    refine lv_iload_n hx hb dX2_put_26 rfl (lv_at hl 1 rfl) ?_
    refine xr_iast hx hb hK hP hD hS 1 1 rfl rfl (by omega) (by omega) dX2_put_27 (fun H locs hP hD hS => ?_)
    have hP : va_P (dC, dI) vwCl [(m0, .inr (2, [.int (nI 0), .int (nI cap), .ref mK, .ref mT, .ref mU, .ref mV, .int (nI n), .int (nI hi), .int (nI ru), .ref mL, .int (nI me), .long (lN mp), .ref mS, .int (nI pd), .int (nI ht)])), (mK, .inl (cI, 4096, .inl (uN_up K n k))), (mT, .inl (cI, 4096, .inl T))] H := hP
    have hD : va_D A [(m0, .inr (2, [.int (nI 0), .int (nI cap), .ref mK, .ref mT, .ref mU, .ref mV, .int (nI n), .int (nI hi), .int (nI ru), .ref mL, .int (nI me), .long (lN mp), .ref mS, .int (nI pd), .int (nI ht)])), (mK, .inl (cI, 4096, .inl (uN_up K n k))), (mT, .inl (cI, 4096, .inl T))] := hD
    refine lv_aload_n hx hb dX2_put_28 rfl (lv_at hl 0 rfl) ?_
    refine va_get (D := (dC, dI)) (ci := 2) (v := .ref mT) (C := RX2) (T := TX2) (N := 15) hx hb hts hin_2 hown hK hP 0 rfl rfl 3 (by decide) k_5 (fun _ h9 => h9) rfl dX2_put_29 ?_
    refine lv_aload_n hx hb dX2_put_32 rfl (lv_at hl 0 rfl) ?_
    refine va_get (D := (dC, dI)) (ci := 2) (v := .int (nI n)) (C := RX2) (T := TX2) (N := 15) hx hb hts hin_2 hown hK hP 0 rfl rfl 6 (by decide) k_2 (fun _ h9 => h9) rfl dX2_put_33 ?_
    refine lv_iload_n hx hb dX2_put_36 rfl (lv_at hl 2 rfl) ?_
    refine xr_iast hx hb hK hP hD hS 2 1 rfl rfl (by omega) (by omega) dX2_put_37 (fun H locs hP hD hS => ?_)
    have hP : va_P (dC, dI) vwCl [(m0, .inr (2, [.int (nI 0), .int (nI cap), .ref mK, .ref mT, .ref mU, .ref mV, .int (nI n), .int (nI hi), .int (nI ru), .ref mL, .int (nI me), .long (lN mp), .ref mS, .int (nI pd), .int (nI ht)])), (mK, .inl (cI, 4096, .inl (uN_up K n k))), (mT, .inl (cI, 4096, .inl (uN_up T n t)))] H := hP
    have hD : va_D A [(m0, .inr (2, [.int (nI 0), .int (nI cap), .ref mK, .ref mT, .ref mU, .ref mV, .int (nI n), .int (nI hi), .int (nI ru), .ref mL, .int (nI me), .long (lN mp), .ref mS, .int (nI pd), .int (nI ht)])), (mK, .inl (cI, 4096, .inl (uN_up K n k))), (mT, .inl (cI, 4096, .inl (uN_up T n t)))] := hD
    refine lv_aload_n hx hb dX2_put_38 rfl (lv_at hl 0 rfl) ?_
    refine lv_dup hx hb dX2_put_39 rfl ?_
    refine va_get (D := (dC, dI)) (ci := 2) (v := .int (nI n)) (C := RX2) (T := TX2) (N := 15) hx hb hts hin_2 hown hK hP 0 rfl rfl 6 (by decide) k_2 (fun _ h9 => h9) rfl dX2_put_40 ?_
    refine lv_iconst (v := nI 1) hx hb dX2_put_43 (by decide) ?_
    refine xr_iadd hx hb dX2_put_44 ?_
    refine va_put (D := (dC, dI)) (ci := 2) (v := .int (nI (n + 1))) (ty := .int) (C := RX2) (T := TX2) (N := 15) hx hb hts hin_2 tyX2 tyX2_ok nmX2 hown hK hP hD hS 0 rfl rfl 6 (by decide) k_2 (fun _ h9 => h9) rfl (by decide +kernel) rfl rfl (Nat.le_of_ble_eq_true rfl) dX2_put_45 (fun H locs hP hD hS => ?_)
    have hP : va_P (dC, dI) vwCl [(m0, .inr (2, [.int (nI 0), .int (nI cap), .ref mK, .ref mT, .ref mU, .ref mV, .int (nI (n + 1)), .int (nI hi), .int (nI ru), .ref mL, .int (nI me), .long (lN mp), .ref mS, .int (nI pd), .int (nI ht)])), (mK, .inl (cI, 4096, .inl (uN_up K n k))), (mT, .inl (cI, 4096, .inl (uN_up T n t)))] H := hP
    have hD : va_D A [(m0, .inr (2, [.int (nI 0), .int (nI cap), .ref mK, .ref mT, .ref mU, .ref mV, .int (nI (n + 1)), .int (nI hi), .int (nI ru), .ref mL, .int (nI me), .long (lN mp), .ref mS, .int (nI pd), .int (nI ht)])), (mK, .inl (cI, 4096, .inl (uN_up K n k))), (mT, .inl (cI, 4096, .inl (uN_up T n t)))] := hD
    refine lv_iconst (v := nI 1) hx hb dX2_put_48 (by decide) ?_
    exact hret (n + 1, uN_up K n k, uN_up T n t) _ _ _ _ _ _ _ (Or.inl ⟨by omega, rfl, rfl⟩) hP hK hD hS (Nat.le_of_ble_eq_true rfl) (Nat.le_of_ble_eq_true rfl) (rfl) dX2_put_49
  · refine lv_iconst (v := nI 0) hx hb dX2_put_16 (by decide) ?_
    exact hret (n, K, T) _ _ _ _ _ _ _ (Or.inr ⟨by omega, rfl, rfl⟩) hP hK hD hS (Nat.le_of_ble_eq_true rfl) (Nat.le_of_ble_eq_true rfl) (rfl) dX2_put_17
abbrev rmX2_fill : Room := { frames := 0, cells := 0, slots := 0, locals := 0 }
set_option maxRecDepth 100000 in
set_option maxHeartbeats 4000000 in
theorem c_X2_fill (l : Launch) (dC : Nat → ClassId) (dI : Nat → Nat → Nat) (cJ cI : ClassId) (m0 mK mT mU mV mL mS th cap n hi ru me mp pd ht : Nat) (K T : Nat → Int32) (x key step m9 tag : Int32) (hn : n ≤ cap) (hC : cap ≤ 4096) : CI l yX2_fill wsX2_fill rmX2_fill [.ref m0, .int x, .int key, .int step, .int m9, .int tag] (dC, dI) vwCl (KT cJ cI) [(m0, .inr (2, [.int (nI th), .int (nI cap), .ref mK, .ref mT, .ref mU, .ref mV, .int (nI n), .int (nI hi), .int (nI ru), .ref mL, .int (nI me), .long (lN mp), .ref mS, .int (nI pd), .int (nI ht)])), (mK, .inl (cI, 4096, .inl K)), (mT, .inl (cI, 4096, .inl T))] (S := Unit) (fun r _ => r = nI (fcN x (cap - n))) (fun _ => KT cJ cI) (fun _ => [(m0, .inr (2, [.int (nI 0), .int (nI cap), .ref mK, .ref mT, .ref mU, .ref mV, .int (nI (n + fcN x (cap - n))), .int (nI hi), .int (nI ru), .ref mL, .int (nI me), .long (lN mp), .ref mS, .int (nI pd), .int (nI ht)])), (mK, .inl (cI, 4096, .inl (gF K n (fkI key step m9) (fcN x (cap - n))))), (mT, .inl (cI, 4096, .inl (gF T n (fun j => tag + nI j) (fcN x (cap - n)))))]) := by
  refine CI.mk (by decide) rfl (Nat.le_of_ble_eq_true rfl) ?_
  intro p e s m args below meth c A Q ls hx hb hml hown hts hA hS hP hD hK hN hl hret
  have hl : lv_has ls 9 [(0, .ref m0), (1, .int x), (2, .int key), (3, .int step), (4, .int m9), (5, .int tag)] := hl
  have hin_2 : ∀ w ∈ u_ws RX2 TX2 15, w ∈ wsX2_fill := by decide +kernel
  have k_1 := hts (Cond.fieldLink RX2 32 "PairSorterModel" "thrown" "I") (by decide +kernel)
  have k_2 := hts (Cond.fieldLink RX2 35 "PairSorterModel" "size" "I") (by decide +kernel)
  have k_3 := hts (Cond.fieldLink RX2 28 "PairSorterModel" "cap" "I") (by decide +kernel)
  have k_4 := hts (Cond.fieldLink RX2 7 "PairSorterModel" "keys" "[I") (by decide +kernel)
  have k_5 := hts (Cond.fieldLink RX2 13 "PairSorterModel" "tags" "[I") (by decide +kernel)
  have hfc : fcN x (cap - n) ≤ cap - n := Nat.min_le_right _ _
  have hfx : fcN x (cap - n) ≤ x.toNatClampNeg := Nat.min_le_left _ _
  refine lv_aload_n hx hb dX2_fill_0 rfl (lv_at hl 0 rfl) ?_
  refine lv_iconst (v := nI 0) hx hb dX2_fill_1 (by decide) ?_
  refine va_put (D := (dC, dI)) (ci := 2) (v := .int (nI 0)) (ty := .int) (C := RX2) (T := TX2) (N := 15) hx hb hts hin_2 tyX2 tyX2_ok nmX2 hown hK hP hD hS 0 rfl rfl 0 (by decide) k_1 (fun _ h9 => h9) rfl (by decide +kernel) rfl rfl (Nat.le_of_ble_eq_true rfl) dX2_fill_2 (fun H locs hP hD hS => ?_)
  have hP : va_P (dC, dI) vwCl [(m0, .inr (2, [.int (nI 0), .int (nI cap), .ref mK, .ref mT, .ref mU, .ref mV, .int (nI n), .int (nI hi), .int (nI ru), .ref mL, .int (nI me), .long (lN mp), .ref mS, .int (nI pd), .int (nI ht)])), (mK, .inl (cI, 4096, .inl K)), (mT, .inl (cI, 4096, .inl T))] H := hP
  have hD : va_D A [(m0, .inr (2, [.int (nI 0), .int (nI cap), .ref mK, .ref mT, .ref mU, .ref mV, .int (nI n), .int (nI hi), .int (nI ru), .ref mL, .int (nI me), .long (lN mp), .ref mS, .int (nI pd), .int (nI ht)])), (mK, .inl (cI, 4096, .inl K)), (mT, .inl (cI, 4096, .inl T))] := hD
  refine lv_iconst (v := nI 0) hx hb dX2_fill_5 (by decide) ?_
  refine lv_istore (lv' := [(6, .int (nI 0)), (0, .ref m0), (1, .int x), (2, .int key), (3, .int step), (4, .int m9), (5, .int tag)]) hx hb dX2_fill_6 hl (by decide) rfl (fun ls hl => ?_)
  refine lv_iload_n hx hb dX2_fill_8 rfl (lv_at hl 3 rfl) ?_
  refine xr_top (y := key + nI 0 * step) ((by rw [nI_0]; grind)) ?_
  refine lv_istore (lv' := [(7, .int (key + nI 0 * step)), (6, .int (nI 0)), (0, .ref m0), (1, .int x), (2, .int key), (3, .int step), (4, .int m9), (5, .int tag)]) hx hb dX2_fill_9 hl (by decide) rfl (fun ls hl => ?_)
  have L_l : ∀ (kq : Nat) (i : Nat), (i ≤ fcN x (cap - n)) → fcN x (cap - n) - i < kq → ∀ (H : Heap) (locs : List Loc) (ls : Array Slot), va_P (dC, dI) vwCl [(m0, .inr (2, [.int (nI 0), .int (nI cap), .ref mK, .ref mT, .ref mU, .ref mV, .int (nI (n + i)), .int (nI hi), .int (nI ru), .ref mL, .int (nI me), .long (lN mp), .ref mS, .int (nI pd), .int (nI ht)])), (mK, .inl (cI, 4096, .inl (gF K n (fkI key step m9) i))), (mT, .inl (cI, 4096, .inl (gF T n (fun j => tag + nI j) i)))] H → va_D A [(m0, .inr (2, [.int (nI 0), .int (nI cap), .ref mK, .ref mT, .ref mU, .ref mV, .int (nI (n + i)), .int (nI hi), .int (nI ru), .ref mL, .int (nI me), .long (lN mp), .ref mS, .int (nI pd), .int (nI ht)])), (mK, .inl (cI, 4096, .inl (gF K n (fkI key step m9) i))), (mT, .inl (cI, 4096, .inl (gF T n (fun j => tag + nI j) i)))] → va_S A s.heap H locs → lv_has ls 9 [(6, .int (nI i)), (7, .int (key + nI i * step)), (0, .ref m0), (1, .int x), (2, .int key), (3, .int step), (4, .int m9), (5, .int tag)] → W p l e rmX2_fill s m args below meth c H locs 0 0 Q (F0 m 11 ls []) := by
    intro kq
    induction kq with
    | zero =>
      intro i h1 hm
      exact absurd hm (Nat.not_lt_zero _)
    | succ kq ih_l =>
      intro i h1 hm H locs ls hP hD hS hl
      refine lv_iload hx hb dX2_fill_11 (lv_at hl 0 rfl) ?_
      refine lv_iload_n hx hb dX2_fill_13 rfl (lv_at hl 3 rfl) ?_
      refine lv_icmp_ge (tgt := 110) hx hb dX2_fill_14 (by decide) (fun c_14 => ?_) (fun c_14 => ?_)
      · have hi9 : i = fcN x (cap - n) := by have h7 := (clamp_le (x := x) (i := i) (by omega)).mp c_14; unfold fcN at h1 ⊢; omega
        rw [hi9] at hP hD
        refine lv_iload hx hb dX2_fill_110 (lv_at hl 0 rfl) ?_
        exact hret () _ _ _ _ _ _ _ (congrArg nI hi9) hP hK hD hS (Nat.le_of_ble_eq_true rfl) (Nat.le_of_ble_eq_true rfl) (rfl) dX2_fill_112
      · have hlt : i < x.toNatClampNeg := Nat.lt_of_not_le (fun q => c_14 ((clamp_le (by omega)).mpr q))
        refine lv_aload_n hx hb dX2_fill_17 rfl (lv_at hl 2 rfl) ?_
        refine va_get (D := (dC, dI)) (ci := 2) (v := .int (nI (n + i))) (C := RX2) (T := TX2) (N := 15) hx hb hts hin_2 hown hK hP 0 rfl rfl 6 (by decide) k_2 (fun _ h9 => h9) rfl dX2_fill_18 ?_
        refine lv_aload_n hx hb dX2_fill_21 rfl (lv_at hl 2 rfl) ?_
        refine va_get (D := (dC, dI)) (ci := 2) (v := .int (nI cap)) (C := RX2) (T := TX2) (N := 15) hx hb hts hin_2 hown hK hP 0 rfl rfl 1 (by decide) k_3 (fun _ h9 => h9) rfl dX2_fill_22 ?_
        refine xr_icmp_ge (tgt := 110) hx hb dX2_fill_25 (by decide) (by omega) (by omega) (fun c_25 => ?_) (fun c_25 => ?_)
        · have hi9 : i = fcN x (cap - n) := by omega
          rw [hi9] at hP hD
          refine lv_iload hx hb dX2_fill_110 (lv_at hl 0 rfl) ?_
          exact hret () _ _ _ _ _ _ _ (congrArg nI hi9) hP hK hD hS (Nat.le_of_ble_eq_true rfl) (Nat.le_of_ble_eq_true rfl) (rfl) dX2_fill_112
        · have hlt2 : i + 1 ≤ fcN x (cap - n) := by unfold fcN; omega
          refine lv_iload hx hb dX2_fill_28 (lv_at hl 6 rfl) ?_
          refine lv_if_le (tgt := 41) hx hb dX2_fill_30 (by decide) (fun c_30 => ?_) (fun c_30 => ?_)
          · have hno : ¬ 0 < m9 := fun q => by have h1 := Int32.lt_iff_toInt_lt.mp q; have h2 := Int32.le_iff_toInt_le.mp c_30; omega
            have hk9 : key + nI i * step = fkI key step m9 i := by unfold fkI; rw [if_neg hno]
            refine lv_iload hx hb dX2_fill_41 (lv_at hl 1 rfl) ?_
            refine lv_istore (lv' := [(8, .int (key + nI i * step)), (6, .int (nI i)), (7, .int (key + nI i * step)), (0, .ref m0), (1, .int x), (2, .int key), (3, .int step), (4, .int m9), (5, .int tag)]) hx hb dX2_fill_43 hl (by decide) rfl (fun ls hl => ?_)
            refine lv_aload_n hx hb dX2_fill_45 rfl (lv_at hl 3 rfl) ?_
            refine va_get (D := (dC, dI)) (ci := 2) (v := .ref mK) (C := RX2) (T := TX2) (N := 15) hx hb hts hin_2 hown hK hP 0 rfl rfl 2 (by decide) k_4 (fun _ h9 => h9) rfl dX2_fill_46 ?_
            refine lv_aload_n hx hb dX2_fill_49 rfl (lv_at hl 3 rfl) ?_
            refine va_get (D := (dC, dI)) (ci := 2) (v := .int (nI (n + i))) (C := RX2) (T := TX2) (N := 15) hx hb hts hin_2 hown hK hP 0 rfl rfl 6 (by decide) k_2 (fun _ h9 => h9) rfl dX2_fill_50 ?_
            refine lv_iload hx hb dX2_fill_53 (lv_at hl 7 rfl) ?_
            refine lv_if_le (tgt := 71) hx hb dX2_fill_55 (by decide) (fun c_55 => ?_) (fun c_55 => ?_)
            · refine lv_iload hx hb dX2_fill_71 (lv_at hl 0 rfl) ?_
              refine xr_top (y := fkI key step m9 i) (hk9) ?_
              refine xr_iast hx hb hK hP hD hS 1 1 rfl rfl (by omega) (by omega) dX2_fill_73 (fun H locs hP hD hS => ?_)
              have hP : va_P (dC, dI) vwCl [(m0, .inr (2, [.int (nI 0), .int (nI cap), .ref mK, .ref mT, .ref mU, .ref mV, .int (nI (n + i)), .int (nI hi), .int (nI ru), .ref mL, .int (nI me), .long (lN mp), .ref mS, .int (nI pd), .int (nI ht)])), (mK, .inl (cI, 4096, .inl (uN_up (gF K n (fkI key step m9) i) (n + i) (fkI key step m9 i)))), (mT, .inl (cI, 4096, .inl (gF T n (fun j => tag + nI j) i)))] H := hP
              have hD : va_D A [(m0, .inr (2, [.int (nI 0), .int (nI cap), .ref mK, .ref mT, .ref mU, .ref mV, .int (nI (n + i)), .int (nI hi), .int (nI ru), .ref mL, .int (nI me), .long (lN mp), .ref mS, .int (nI pd), .int (nI ht)])), (mK, .inl (cI, 4096, .inl (uN_up (gF K n (fkI key step m9) i) (n + i) (fkI key step m9 i)))), (mT, .inl (cI, 4096, .inl (gF T n (fun j => tag + nI j) i)))] := hD
              refine lv_aload_n hx hb dX2_fill_74 rfl (lv_at hl 3 rfl) ?_
              refine va_get (D := (dC, dI)) (ci := 2) (v := .ref mT) (C := RX2) (T := TX2) (N := 15) hx hb hts hin_2 hown hK hP 0 rfl rfl 3 (by decide) k_5 (fun _ h9 => h9) rfl dX2_fill_75 ?_
              refine lv_aload_n hx hb dX2_fill_78 rfl (lv_at hl 3 rfl) ?_
              refine va_get (D := (dC, dI)) (ci := 2) (v := .int (nI (n + i))) (C := RX2) (T := TX2) (N := 15) hx hb hts hin_2 hown hK hP 0 rfl rfl 6 (by decide) k_2 (fun _ h9 => h9) rfl dX2_fill_79 ?_
              refine lv_iload hx hb dX2_fill_82 (lv_at hl 8 rfl) ?_
              refine lv_iload hx hb dX2_fill_84 (lv_at hl 1 rfl) ?_
              refine lv_iadd hx hb dX2_fill_86 ?_
              refine xr_iast hx hb hK hP hD hS 2 1 rfl rfl (by omega) (by omega) dX2_fill_87 (fun H locs hP hD hS => ?_)
              have hP : va_P (dC, dI) vwCl [(m0, .inr (2, [.int (nI 0), .int (nI cap), .ref mK, .ref mT, .ref mU, .ref mV, .int (nI (n + i)), .int (nI hi), .int (nI ru), .ref mL, .int (nI me), .long (lN mp), .ref mS, .int (nI pd), .int (nI ht)])), (mK, .inl (cI, 4096, .inl (uN_up (gF K n (fkI key step m9) i) (n + i) (fkI key step m9 i)))), (mT, .inl (cI, 4096, .inl (uN_up (gF T n (fun j => tag + nI j) i) (n + i) (tag + (nI i)))))] H := hP
              have hD : va_D A [(m0, .inr (2, [.int (nI 0), .int (nI cap), .ref mK, .ref mT, .ref mU, .ref mV, .int (nI (n + i)), .int (nI hi), .int (nI ru), .ref mL, .int (nI me), .long (lN mp), .ref mS, .int (nI pd), .int (nI ht)])), (mK, .inl (cI, 4096, .inl (uN_up (gF K n (fkI key step m9) i) (n + i) (fkI key step m9 i)))), (mT, .inl (cI, 4096, .inl (uN_up (gF T n (fun j => tag + nI j) i) (n + i) (tag + (nI i)))))] := hD
              refine lv_aload_n hx hb dX2_fill_88 rfl (lv_at hl 3 rfl) ?_
              refine lv_dup hx hb dX2_fill_89 rfl ?_
              refine va_get (D := (dC, dI)) (ci := 2) (v := .int (nI (n + i))) (C := RX2) (T := TX2) (N := 15) hx hb hts hin_2 hown hK hP 0 rfl rfl 6 (by decide) k_2 (fun _ h9 => h9) rfl dX2_fill_90 ?_
              refine lv_iconst (v := nI 1) hx hb dX2_fill_93 (by decide) ?_
              refine xr_iadd hx hb dX2_fill_94 ?_
              refine va_put (D := (dC, dI)) (ci := 2) (v := .int (nI (n + i + 1))) (ty := .int) (C := RX2) (T := TX2) (N := 15) hx hb hts hin_2 tyX2 tyX2_ok nmX2 hown hK hP hD hS 0 rfl rfl 6 (by decide) k_2 (fun _ h9 => h9) rfl (by decide +kernel) rfl rfl (Nat.le_of_ble_eq_true rfl) dX2_fill_95 (fun H locs hP hD hS => ?_)
              have hP : va_P (dC, dI) vwCl [(m0, .inr (2, [.int (nI 0), .int (nI cap), .ref mK, .ref mT, .ref mU, .ref mV, .int (nI (n + i + 1)), .int (nI hi), .int (nI ru), .ref mL, .int (nI me), .long (lN mp), .ref mS, .int (nI pd), .int (nI ht)])), (mK, .inl (cI, 4096, .inl (uN_up (gF K n (fkI key step m9) i) (n + i) (fkI key step m9 i)))), (mT, .inl (cI, 4096, .inl (uN_up (gF T n (fun j => tag + nI j) i) (n + i) (tag + (nI i)))))] H := hP
              have hD : va_D A [(m0, .inr (2, [.int (nI 0), .int (nI cap), .ref mK, .ref mT, .ref mU, .ref mV, .int (nI (n + i + 1)), .int (nI hi), .int (nI ru), .ref mL, .int (nI me), .long (lN mp), .ref mS, .int (nI pd), .int (nI ht)])), (mK, .inl (cI, 4096, .inl (uN_up (gF K n (fkI key step m9) i) (n + i) (fkI key step m9 i)))), (mT, .inl (cI, 4096, .inl (uN_up (gF T n (fun j => tag + nI j) i) (n + i) (tag + (nI i)))))] := hD
              refine lv_iinc (v := nI (i + 1)) (lv' := [(6, .int (nI (i + 1))), (8, .int (key + nI i * step)), (7, .int (key + nI i * step)), (0, .ref m0), (1, .int x), (2, .int key), (3, .int step), (4, .int m9), (5, .int tag)]) hx hb dX2_fill_98 hl (k := 1) rfl (nI_add i 1) (by decide) rfl (fun ls hl => ?_)
              refine lv_iload hx hb dX2_fill_101 (lv_at hl 2 rfl) ?_
              refine lv_iload_n hx hb dX2_fill_103 rfl (lv_at hl 6 rfl) ?_
              refine lv_iadd hx hb dX2_fill_104 ?_
              refine xr_top (y := key + nI (i + 1) * step) (kst key step i) ?_
              refine lv_istore (lv' := [(7, .int (key + nI (i + 1) * step)), (6, .int (nI (i + 1))), (8, .int (key + nI i * step)), (0, .ref m0), (1, .int x), (2, .int key), (3, .int step), (4, .int m9), (5, .int tag)]) hx hb dX2_fill_105 hl (by decide) rfl (fun ls hl => ?_)
              refine lv_goto (tgt := 11) hx hb dX2_fill_107 (by decide) ?_
              exact ih_l (i + 1) (by omega) (by omega) _ _ _ (by rw [← gF_s K n (fkI key step m9) i, ← gF_s T n (fun j => tag + nI j) i]; exact hP) (by rw [← gF_s K n (fkI key step m9) i, ← gF_s T n (fun j => tag + nI j) i]; exact hD) hS (lv_sub hl [1, 0, 3, 4, 5, 6, 7, 8] rfl)
            · exact absurd c_30 c_55
          · have hyes : 0 < m9 := Int32.lt_iff_toInt_lt.mpr (Int.not_le.mp (fun q => c_30 (Int32.le_iff_toInt_le.mpr q)))
            refine lv_iload hx hb dX2_fill_33 (lv_at hl 1 rfl) ?_
            refine lv_iload hx hb dX2_fill_35 (lv_at hl 6 rfl) ?_
            refine lv_irem hx hb dX2_fill_37 (fun q => by rw [q] at hyes; exact absurd hyes (by decide)) ?_
            refine lv_goto (tgt := 43) hx hb dX2_fill_38 (by decide) ?_
            refine lv_istore (lv' := [(8, .int ((key + nI i * step) - (key + nI i * step) / m9 * m9)), (6, .int (nI i)), (7, .int (key + nI i * step)), (0, .ref m0), (1, .int x), (2, .int key), (3, .int step), (4, .int m9), (5, .int tag)]) hx hb dX2_fill_43 hl (by decide) rfl (fun ls hl => ?_)
            refine lv_aload_n hx hb dX2_fill_45 rfl (lv_at hl 3 rfl) ?_
            refine va_get (D := (dC, dI)) (ci := 2) (v := .ref mK) (C := RX2) (T := TX2) (N := 15) hx hb hts hin_2 hown hK hP 0 rfl rfl 2 (by decide) k_4 (fun _ h9 => h9) rfl dX2_fill_46 ?_
            refine lv_aload_n hx hb dX2_fill_49 rfl (lv_at hl 3 rfl) ?_
            refine va_get (D := (dC, dI)) (ci := 2) (v := .int (nI (n + i))) (C := RX2) (T := TX2) (N := 15) hx hb hts hin_2 hown hK hP 0 rfl rfl 6 (by decide) k_2 (fun _ h9 => h9) rfl dX2_fill_50 ?_
            refine lv_iload hx hb dX2_fill_53 (lv_at hl 7 rfl) ?_
            refine lv_if_le (tgt := 71) hx hb dX2_fill_55 (by decide) (fun c_55 => ?_) (fun c_55 => ?_)
            · exact absurd c_55 c_30
            · refine lv_iload hx hb dX2_fill_58 (lv_at hl 0 rfl) ?_
              refine lv_if_ge (tgt := 71) hx hb dX2_fill_60 (by decide) (fun c_60 => ?_) (fun c_60 => ?_)
              · have hk9 : (key + nI i * step) - (key + nI i * step) / m9 * m9 = fkI key step m9 i := by unfold fkI; rw [if_pos hyes, fm_pos hyes, if_neg (fun q => by have h1 := (neg_int _).mp q; have h2 := Int32.le_iff_toInt_le.mp c_60; have h3 : (0 : Int32).toInt = 0 := rfl; omega)]
                refine lv_iload hx hb dX2_fill_71 (lv_at hl 0 rfl) ?_
                refine xr_top (y := fkI key step m9 i) (hk9) ?_
                refine xr_iast hx hb hK hP hD hS 1 1 rfl rfl (by omega) (by omega) dX2_fill_73 (fun H locs hP hD hS => ?_)
                have hP : va_P (dC, dI) vwCl [(m0, .inr (2, [.int (nI 0), .int (nI cap), .ref mK, .ref mT, .ref mU, .ref mV, .int (nI (n + i)), .int (nI hi), .int (nI ru), .ref mL, .int (nI me), .long (lN mp), .ref mS, .int (nI pd), .int (nI ht)])), (mK, .inl (cI, 4096, .inl (uN_up (gF K n (fkI key step m9) i) (n + i) (fkI key step m9 i)))), (mT, .inl (cI, 4096, .inl (gF T n (fun j => tag + nI j) i)))] H := hP
                have hD : va_D A [(m0, .inr (2, [.int (nI 0), .int (nI cap), .ref mK, .ref mT, .ref mU, .ref mV, .int (nI (n + i)), .int (nI hi), .int (nI ru), .ref mL, .int (nI me), .long (lN mp), .ref mS, .int (nI pd), .int (nI ht)])), (mK, .inl (cI, 4096, .inl (uN_up (gF K n (fkI key step m9) i) (n + i) (fkI key step m9 i)))), (mT, .inl (cI, 4096, .inl (gF T n (fun j => tag + nI j) i)))] := hD
                refine lv_aload_n hx hb dX2_fill_74 rfl (lv_at hl 3 rfl) ?_
                refine va_get (D := (dC, dI)) (ci := 2) (v := .ref mT) (C := RX2) (T := TX2) (N := 15) hx hb hts hin_2 hown hK hP 0 rfl rfl 3 (by decide) k_5 (fun _ h9 => h9) rfl dX2_fill_75 ?_
                refine lv_aload_n hx hb dX2_fill_78 rfl (lv_at hl 3 rfl) ?_
                refine va_get (D := (dC, dI)) (ci := 2) (v := .int (nI (n + i))) (C := RX2) (T := TX2) (N := 15) hx hb hts hin_2 hown hK hP 0 rfl rfl 6 (by decide) k_2 (fun _ h9 => h9) rfl dX2_fill_79 ?_
                refine lv_iload hx hb dX2_fill_82 (lv_at hl 8 rfl) ?_
                refine lv_iload hx hb dX2_fill_84 (lv_at hl 1 rfl) ?_
                refine lv_iadd hx hb dX2_fill_86 ?_
                refine xr_iast hx hb hK hP hD hS 2 1 rfl rfl (by omega) (by omega) dX2_fill_87 (fun H locs hP hD hS => ?_)
                have hP : va_P (dC, dI) vwCl [(m0, .inr (2, [.int (nI 0), .int (nI cap), .ref mK, .ref mT, .ref mU, .ref mV, .int (nI (n + i)), .int (nI hi), .int (nI ru), .ref mL, .int (nI me), .long (lN mp), .ref mS, .int (nI pd), .int (nI ht)])), (mK, .inl (cI, 4096, .inl (uN_up (gF K n (fkI key step m9) i) (n + i) (fkI key step m9 i)))), (mT, .inl (cI, 4096, .inl (uN_up (gF T n (fun j => tag + nI j) i) (n + i) (tag + (nI i)))))] H := hP
                have hD : va_D A [(m0, .inr (2, [.int (nI 0), .int (nI cap), .ref mK, .ref mT, .ref mU, .ref mV, .int (nI (n + i)), .int (nI hi), .int (nI ru), .ref mL, .int (nI me), .long (lN mp), .ref mS, .int (nI pd), .int (nI ht)])), (mK, .inl (cI, 4096, .inl (uN_up (gF K n (fkI key step m9) i) (n + i) (fkI key step m9 i)))), (mT, .inl (cI, 4096, .inl (uN_up (gF T n (fun j => tag + nI j) i) (n + i) (tag + (nI i)))))] := hD
                refine lv_aload_n hx hb dX2_fill_88 rfl (lv_at hl 3 rfl) ?_
                refine lv_dup hx hb dX2_fill_89 rfl ?_
                refine va_get (D := (dC, dI)) (ci := 2) (v := .int (nI (n + i))) (C := RX2) (T := TX2) (N := 15) hx hb hts hin_2 hown hK hP 0 rfl rfl 6 (by decide) k_2 (fun _ h9 => h9) rfl dX2_fill_90 ?_
                refine lv_iconst (v := nI 1) hx hb dX2_fill_93 (by decide) ?_
                refine xr_iadd hx hb dX2_fill_94 ?_
                refine va_put (D := (dC, dI)) (ci := 2) (v := .int (nI (n + i + 1))) (ty := .int) (C := RX2) (T := TX2) (N := 15) hx hb hts hin_2 tyX2 tyX2_ok nmX2 hown hK hP hD hS 0 rfl rfl 6 (by decide) k_2 (fun _ h9 => h9) rfl (by decide +kernel) rfl rfl (Nat.le_of_ble_eq_true rfl) dX2_fill_95 (fun H locs hP hD hS => ?_)
                have hP : va_P (dC, dI) vwCl [(m0, .inr (2, [.int (nI 0), .int (nI cap), .ref mK, .ref mT, .ref mU, .ref mV, .int (nI (n + i + 1)), .int (nI hi), .int (nI ru), .ref mL, .int (nI me), .long (lN mp), .ref mS, .int (nI pd), .int (nI ht)])), (mK, .inl (cI, 4096, .inl (uN_up (gF K n (fkI key step m9) i) (n + i) (fkI key step m9 i)))), (mT, .inl (cI, 4096, .inl (uN_up (gF T n (fun j => tag + nI j) i) (n + i) (tag + (nI i)))))] H := hP
                have hD : va_D A [(m0, .inr (2, [.int (nI 0), .int (nI cap), .ref mK, .ref mT, .ref mU, .ref mV, .int (nI (n + i + 1)), .int (nI hi), .int (nI ru), .ref mL, .int (nI me), .long (lN mp), .ref mS, .int (nI pd), .int (nI ht)])), (mK, .inl (cI, 4096, .inl (uN_up (gF K n (fkI key step m9) i) (n + i) (fkI key step m9 i)))), (mT, .inl (cI, 4096, .inl (uN_up (gF T n (fun j => tag + nI j) i) (n + i) (tag + (nI i)))))] := hD
                refine lv_iinc (v := nI (i + 1)) (lv' := [(6, .int (nI (i + 1))), (8, .int ((key + nI i * step) - (key + nI i * step) / m9 * m9)), (7, .int (key + nI i * step)), (0, .ref m0), (1, .int x), (2, .int key), (3, .int step), (4, .int m9), (5, .int tag)]) hx hb dX2_fill_98 hl (k := 1) rfl (nI_add i 1) (by decide) rfl (fun ls hl => ?_)
                refine lv_iload hx hb dX2_fill_101 (lv_at hl 2 rfl) ?_
                refine lv_iload_n hx hb dX2_fill_103 rfl (lv_at hl 6 rfl) ?_
                refine lv_iadd hx hb dX2_fill_104 ?_
                refine xr_top (y := key + nI (i + 1) * step) (kst key step i) ?_
                refine lv_istore (lv' := [(7, .int (key + nI (i + 1) * step)), (6, .int (nI (i + 1))), (8, .int ((key + nI i * step) - (key + nI i * step) / m9 * m9)), (0, .ref m0), (1, .int x), (2, .int key), (3, .int step), (4, .int m9), (5, .int tag)]) hx hb dX2_fill_105 hl (by decide) rfl (fun ls hl => ?_)
                refine lv_goto (tgt := 11) hx hb dX2_fill_107 (by decide) ?_
                exact ih_l (i + 1) (by omega) (by omega) _ _ _ (by rw [← gF_s K n (fkI key step m9) i, ← gF_s T n (fun j => tag + nI j) i]; exact hP) (by rw [← gF_s K n (fkI key step m9) i, ← gF_s T n (fun j => tag + nI j) i]; exact hD) hS (lv_sub hl [1, 0, 3, 4, 5, 6, 7, 8] rfl)
              · have hk9 : (key + nI i * step) - (key + nI i * step) / m9 * m9 + m9 = fkI key step m9 i := by unfold fkI; rw [if_pos hyes, fm_pos hyes, if_pos ((neg_int _).mpr (by have h2 := Int.not_le.mp (fun q => c_60 (Int32.le_iff_toInt_le.mpr q)); have h3 : (0 : Int32).toInt = 0 := rfl; omega))]
                refine lv_iload hx hb dX2_fill_63 (lv_at hl 0 rfl) ?_
                refine lv_iload hx hb dX2_fill_65 (lv_at hl 7 rfl) ?_
                refine lv_iadd hx hb dX2_fill_67 ?_
                refine lv_goto (tgt := 73) hx hb dX2_fill_68 (by decide) ?_
                refine xr_top (y := fkI key step m9 i) (hk9) ?_
                refine xr_iast hx hb hK hP hD hS 1 1 rfl rfl (by omega) (by omega) dX2_fill_73 (fun H locs hP hD hS => ?_)
                have hP : va_P (dC, dI) vwCl [(m0, .inr (2, [.int (nI 0), .int (nI cap), .ref mK, .ref mT, .ref mU, .ref mV, .int (nI (n + i)), .int (nI hi), .int (nI ru), .ref mL, .int (nI me), .long (lN mp), .ref mS, .int (nI pd), .int (nI ht)])), (mK, .inl (cI, 4096, .inl (uN_up (gF K n (fkI key step m9) i) (n + i) (fkI key step m9 i)))), (mT, .inl (cI, 4096, .inl (gF T n (fun j => tag + nI j) i)))] H := hP
                have hD : va_D A [(m0, .inr (2, [.int (nI 0), .int (nI cap), .ref mK, .ref mT, .ref mU, .ref mV, .int (nI (n + i)), .int (nI hi), .int (nI ru), .ref mL, .int (nI me), .long (lN mp), .ref mS, .int (nI pd), .int (nI ht)])), (mK, .inl (cI, 4096, .inl (uN_up (gF K n (fkI key step m9) i) (n + i) (fkI key step m9 i)))), (mT, .inl (cI, 4096, .inl (gF T n (fun j => tag + nI j) i)))] := hD
                refine lv_aload_n hx hb dX2_fill_74 rfl (lv_at hl 3 rfl) ?_
                refine va_get (D := (dC, dI)) (ci := 2) (v := .ref mT) (C := RX2) (T := TX2) (N := 15) hx hb hts hin_2 hown hK hP 0 rfl rfl 3 (by decide) k_5 (fun _ h9 => h9) rfl dX2_fill_75 ?_
                refine lv_aload_n hx hb dX2_fill_78 rfl (lv_at hl 3 rfl) ?_
                refine va_get (D := (dC, dI)) (ci := 2) (v := .int (nI (n + i))) (C := RX2) (T := TX2) (N := 15) hx hb hts hin_2 hown hK hP 0 rfl rfl 6 (by decide) k_2 (fun _ h9 => h9) rfl dX2_fill_79 ?_
                refine lv_iload hx hb dX2_fill_82 (lv_at hl 8 rfl) ?_
                refine lv_iload hx hb dX2_fill_84 (lv_at hl 1 rfl) ?_
                refine lv_iadd hx hb dX2_fill_86 ?_
                refine xr_iast hx hb hK hP hD hS 2 1 rfl rfl (by omega) (by omega) dX2_fill_87 (fun H locs hP hD hS => ?_)
                have hP : va_P (dC, dI) vwCl [(m0, .inr (2, [.int (nI 0), .int (nI cap), .ref mK, .ref mT, .ref mU, .ref mV, .int (nI (n + i)), .int (nI hi), .int (nI ru), .ref mL, .int (nI me), .long (lN mp), .ref mS, .int (nI pd), .int (nI ht)])), (mK, .inl (cI, 4096, .inl (uN_up (gF K n (fkI key step m9) i) (n + i) (fkI key step m9 i)))), (mT, .inl (cI, 4096, .inl (uN_up (gF T n (fun j => tag + nI j) i) (n + i) (tag + (nI i)))))] H := hP
                have hD : va_D A [(m0, .inr (2, [.int (nI 0), .int (nI cap), .ref mK, .ref mT, .ref mU, .ref mV, .int (nI (n + i)), .int (nI hi), .int (nI ru), .ref mL, .int (nI me), .long (lN mp), .ref mS, .int (nI pd), .int (nI ht)])), (mK, .inl (cI, 4096, .inl (uN_up (gF K n (fkI key step m9) i) (n + i) (fkI key step m9 i)))), (mT, .inl (cI, 4096, .inl (uN_up (gF T n (fun j => tag + nI j) i) (n + i) (tag + (nI i)))))] := hD
                refine lv_aload_n hx hb dX2_fill_88 rfl (lv_at hl 3 rfl) ?_
                refine lv_dup hx hb dX2_fill_89 rfl ?_
                refine va_get (D := (dC, dI)) (ci := 2) (v := .int (nI (n + i))) (C := RX2) (T := TX2) (N := 15) hx hb hts hin_2 hown hK hP 0 rfl rfl 6 (by decide) k_2 (fun _ h9 => h9) rfl dX2_fill_90 ?_
                refine lv_iconst (v := nI 1) hx hb dX2_fill_93 (by decide) ?_
                refine xr_iadd hx hb dX2_fill_94 ?_
                refine va_put (D := (dC, dI)) (ci := 2) (v := .int (nI (n + i + 1))) (ty := .int) (C := RX2) (T := TX2) (N := 15) hx hb hts hin_2 tyX2 tyX2_ok nmX2 hown hK hP hD hS 0 rfl rfl 6 (by decide) k_2 (fun _ h9 => h9) rfl (by decide +kernel) rfl rfl (Nat.le_of_ble_eq_true rfl) dX2_fill_95 (fun H locs hP hD hS => ?_)
                have hP : va_P (dC, dI) vwCl [(m0, .inr (2, [.int (nI 0), .int (nI cap), .ref mK, .ref mT, .ref mU, .ref mV, .int (nI (n + i + 1)), .int (nI hi), .int (nI ru), .ref mL, .int (nI me), .long (lN mp), .ref mS, .int (nI pd), .int (nI ht)])), (mK, .inl (cI, 4096, .inl (uN_up (gF K n (fkI key step m9) i) (n + i) (fkI key step m9 i)))), (mT, .inl (cI, 4096, .inl (uN_up (gF T n (fun j => tag + nI j) i) (n + i) (tag + (nI i)))))] H := hP
                have hD : va_D A [(m0, .inr (2, [.int (nI 0), .int (nI cap), .ref mK, .ref mT, .ref mU, .ref mV, .int (nI (n + i + 1)), .int (nI hi), .int (nI ru), .ref mL, .int (nI me), .long (lN mp), .ref mS, .int (nI pd), .int (nI ht)])), (mK, .inl (cI, 4096, .inl (uN_up (gF K n (fkI key step m9) i) (n + i) (fkI key step m9 i)))), (mT, .inl (cI, 4096, .inl (uN_up (gF T n (fun j => tag + nI j) i) (n + i) (tag + (nI i)))))] := hD
                refine lv_iinc (v := nI (i + 1)) (lv' := [(6, .int (nI (i + 1))), (8, .int ((key + nI i * step) - (key + nI i * step) / m9 * m9)), (7, .int (key + nI i * step)), (0, .ref m0), (1, .int x), (2, .int key), (3, .int step), (4, .int m9), (5, .int tag)]) hx hb dX2_fill_98 hl (k := 1) rfl (nI_add i 1) (by decide) rfl (fun ls hl => ?_)
                refine lv_iload hx hb dX2_fill_101 (lv_at hl 2 rfl) ?_
                refine lv_iload_n hx hb dX2_fill_103 rfl (lv_at hl 6 rfl) ?_
                refine lv_iadd hx hb dX2_fill_104 ?_
                refine xr_top (y := key + nI (i + 1) * step) (kst key step i) ?_
                refine lv_istore (lv' := [(7, .int (key + nI (i + 1) * step)), (6, .int (nI (i + 1))), (8, .int ((key + nI i * step) - (key + nI i * step) / m9 * m9)), (0, .ref m0), (1, .int x), (2, .int key), (3, .int step), (4, .int m9), (5, .int tag)]) hx hb dX2_fill_105 hl (by decide) rfl (fun ls hl => ?_)
                refine lv_goto (tgt := 11) hx hb dX2_fill_107 (by decide) ?_
                exact ih_l (i + 1) (by omega) (by omega) _ _ _ (by rw [← gF_s K n (fkI key step m9) i, ← gF_s T n (fun j => tag + nI j) i]; exact hP) (by rw [← gF_s K n (fkI key step m9) i, ← gF_s T n (fun j => tag + nI j) i]; exact hD) hS (lv_sub hl [1, 0, 3, 4, 5, 6, 7, 8] rfl)
  exact L_l (_ + 1) 0 (Nat.zero_le _) (Nat.lt_succ_self _) _ _ _ (by rw [gF_0, gF_0]; exact hP) (by rw [gF_0, gF_0]; exact hD) hS (lv_sub hl [1, 0, 2, 3, 4, 5, 6, 7] rfl)
abbrev rmX2_turn : Room := { frames := 0, cells := 0, slots := 0, locals := 0 }
set_option maxRecDepth 100000 in
set_option maxHeartbeats 4000000 in
theorem c_X2_turn (l : Launch) (dC : Nat → ClassId) (dI : Nat → Nat → Nat) (cJ cI : ClassId) (m0 mK mT mU mV mL mS th cap n hi ru me mp pd ht : Nat) (K T U V : Nat → Int32) (i k : Int32) (hn : n ≤ cap) (hC : cap ≤ 4096) : CI l yX2_turn wsX2_turn rmX2_turn [.ref m0, .int i, .int k] (dC, dI) vwCl (KT cJ cI) [(m0, .inr (2, [.int (nI th), .int (nI cap), .ref mK, .ref mT, .ref mU, .ref mV, .int (nI n), .int (nI hi), .int (nI ru), .ref mL, .int (nI me), .long (lN mp), .ref mS, .int (nI pd), .int (nI ht)])), (mK, .inl (cI, 4096, .inl K)), (mT, .inl (cI, 4096, .inl T)), (mU, .inl (cI, 4096, .inl U)), (mV, .inl (cI, 4096, .inl V))] (S := (Nat → Int32) × (Nat → Int32) × (Nat → Int32) × (Nat → Int32)) (fun r u => (∃ a b : Nat, a + b ≤ n ∧ i = nI a ∧ k = nI b ∧ r = nI b ∧ u.1 = trG K a b ∧ u.2.1 = trG T a b) ∨ (¬ trC i k n ∧ r = nI 0 ∧ u.1 = K ∧ u.2.1 = T)) (fun _ => KT cJ cI) (fun u => [(m0, .inr (2, [.int (nI 0), .int (nI cap), .ref mK, .ref mT, .ref mU, .ref mV, .int (nI n), .int (nI hi), .int (nI ru), .ref mL, .int (nI me), .long (lN mp), .ref mS, .int (nI pd), .int (nI ht)])), (mK, .inl (cI, 4096, .inl u.1)), (mT, .inl (cI, 4096, .inl u.2.1)), (mU, .inl (cI, 4096, .inl u.2.2.1)), (mV, .inl (cI, 4096, .inl u.2.2.2))]) := by
  refine CI.mk (by decide) rfl (Nat.le_of_ble_eq_true rfl) ?_
  intro p e s m args below meth c A Q ls hx hb hml hown hts hA hS hP hD hK hN hl hret
  have hl : lv_has ls 4 [(0, .ref m0), (1, .int i), (2, .int k)] := hl
  have hin_2 : ∀ w ∈ u_ws RX2 TX2 15, w ∈ wsX2_turn := by decide +kernel
  have k_1 := hts (Cond.fieldLink RX2 32 "PairSorterModel" "thrown" "I") (by decide +kernel)
  have k_2 := hts (Cond.fieldLink RX2 35 "PairSorterModel" "size" "I") (by decide +kernel)
  have k_3 := hts (Cond.fieldLink RX2 7 "PairSorterModel" "keys" "[I") (by decide +kernel)
  have k_4 := hts (Cond.fieldLink RX2 16 "PairSorterModel" "otherKeys" "[I") (by decide +kernel)
  have k_5 := hts (Cond.fieldLink RX2 13 "PairSorterModel" "tags" "[I") (by decide +kernel)
  have k_6 := hts (Cond.fieldLink RX2 19 "PairSorterModel" "otherTags" "[I") (by decide +kernel)
  refine lv_aload_n hx hb dX2_turn_0 rfl (lv_at hl 0 rfl) ?_
  refine lv_iconst (v := nI 0) hx hb dX2_turn_1 (by decide) ?_
  refine va_put (D := (dC, dI)) (ci := 2) (v := .int (nI 0)) (ty := .int) (C := RX2) (T := TX2) (N := 15) hx hb hts hin_2 tyX2 tyX2_ok nmX2 hown hK hP hD hS 0 rfl rfl 0 (by decide) k_1 (fun _ h9 => h9) rfl (by decide +kernel) rfl rfl (Nat.le_of_ble_eq_true rfl) dX2_turn_2 (fun H locs hP hD hS => ?_)
  have hP : va_P (dC, dI) vwCl [(m0, .inr (2, [.int (nI 0), .int (nI cap), .ref mK, .ref mT, .ref mU, .ref mV, .int (nI n), .int (nI hi), .int (nI ru), .ref mL, .int (nI me), .long (lN mp), .ref mS, .int (nI pd), .int (nI ht)])), (mK, .inl (cI, 4096, .inl K)), (mT, .inl (cI, 4096, .inl T)), (mU, .inl (cI, 4096, .inl U)), (mV, .inl (cI, 4096, .inl V))] H := hP
  have hD : va_D A [(m0, .inr (2, [.int (nI 0), .int (nI cap), .ref mK, .ref mT, .ref mU, .ref mV, .int (nI n), .int (nI hi), .int (nI ru), .ref mL, .int (nI me), .long (lN mp), .ref mS, .int (nI pd), .int (nI ht)])), (mK, .inl (cI, 4096, .inl K)), (mT, .inl (cI, 4096, .inl T)), (mU, .inl (cI, 4096, .inl U)), (mV, .inl (cI, 4096, .inl V))] := hD
  refine lv_iload_n hx hb dX2_turn_5 rfl (lv_at hl 1 rfl) ?_
  refine lv_if_lt (tgt := 31) hx hb dX2_turn_6 (by decide) (fun c_6 => ?_) (fun c_6 => ?_)
  · have hno : ¬ trC i k n := by rintro ⟨a, b, h1, rfl, rfl⟩; exact nI_pos (by omega) c_6
    refine lv_iconst (v := nI 0) hx hb dX2_turn_31 (by decide) ?_
    exact hret (K, T, U, V) _ _ _ _ _ _ _ (Or.inr ⟨hno, rfl, rfl, rfl⟩) hP hK hD hS (Nat.le_of_ble_eq_true rfl) (Nat.le_of_ble_eq_true rfl) (rfl) dX2_turn_32
  · obtain ⟨a1, ha1, rfl⟩ := nI_of c_6
    refine lv_iload_n hx hb dX2_turn_9 rfl (lv_at hl 2 rfl) ?_
    refine lv_if_lt (tgt := 31) hx hb dX2_turn_10 (by decide) (fun c_10 => ?_) (fun c_10 => ?_)
    · have hno : ¬ trC (nI a1) k n := by rintro ⟨a2, b, h1, h2, rfl⟩; exact nI_pos (by omega) c_10
      refine lv_iconst (v := nI 0) hx hb dX2_turn_31 (by decide) ?_
      exact hret (K, T, U, V) _ _ _ _ _ _ _ (Or.inr ⟨hno, rfl, rfl, rfl⟩) hP hK hD hS (Nat.le_of_ble_eq_true rfl) (Nat.le_of_ble_eq_true rfl) (rfl) dX2_turn_32
    · obtain ⟨b1, hb1, rfl⟩ := nI_of c_10
      refine lv_iload_n hx hb dX2_turn_13 rfl (lv_at hl 1 rfl) ?_
      refine lv_aload_n hx hb dX2_turn_14 rfl (lv_at hl 0 rfl) ?_
      refine va_get (D := (dC, dI)) (ci := 2) (v := .int (nI n)) (C := RX2) (T := TX2) (N := 15) hx hb hts hin_2 hown hK hP 0 rfl rfl 6 (by decide) k_2 (fun _ h9 => h9) rfl dX2_turn_15 ?_
      refine xr_icmp_gt (tgt := 31) hx hb dX2_turn_18 (by decide) (by omega) (by omega) (fun c_18 => ?_) (fun c_18 => ?_)
      · have hno : ¬ trC (nI a1) (nI b1) n := by
          rintro ⟨a2, b2, h1, h2, h3⟩
          have e1 := (nI_eq ha1 (by omega)).mp h2
          omega
        refine lv_iconst (v := nI 0) hx hb dX2_turn_31 (by decide) ?_
        exact hret (K, T, U, V) _ _ _ _ _ _ _ (Or.inr ⟨hno, rfl, rfl, rfl⟩) hP hK hD hS (Nat.le_of_ble_eq_true rfl) (Nat.le_of_ble_eq_true rfl) (rfl) dX2_turn_32
      · refine lv_aload_n hx hb dX2_turn_21 rfl (lv_at hl 0 rfl) ?_
        refine va_get (D := (dC, dI)) (ci := 2) (v := .int (nI n)) (C := RX2) (T := TX2) (N := 15) hx hb hts hin_2 hown hK hP 0 rfl rfl 6 (by decide) k_2 (fun _ h9 => h9) rfl dX2_turn_22 ?_
        refine lv_iload_n hx hb dX2_turn_25 rfl (lv_at hl 1 rfl) ?_
        refine xr_isub hx hb dX2_turn_26 (by omega) ?_
        refine lv_iload_n hx hb dX2_turn_27 rfl (lv_at hl 2 rfl) ?_
        refine xr_icmp_ge (tgt := 33) hx hb dX2_turn_28 (by decide) (by omega) (by omega) (fun c_28 => ?_) (fun c_28 => ?_)
        · refine lv_iconst (v := nI 0) hx hb dX2_turn_33 (by decide) ?_
          refine lv_istore_n (lv' := [(3, .int (nI 0)), (0, .ref m0), (1, .int (nI a1)), (2, .int (nI b1))]) hx hb dX2_turn_34 rfl hl (by decide) rfl (fun ls hl => ?_)
          have L_c : ∀ (kq : Nat) (i : Nat), (i ≤ b1) → b1 - i < kq → ∀ (H : Heap) (locs : List Loc) (ls : Array Slot), va_P (dC, dI) vwCl [(m0, .inr (2, [.int (nI 0), .int (nI cap), .ref mK, .ref mT, .ref mU, .ref mV, .int (nI n), .int (nI hi), .int (nI ru), .ref mL, .int (nI me), .long (lN mp), .ref mS, .int (nI pd), .int (nI ht)])), (mK, .inl (cI, 4096, .inl K)), (mT, .inl (cI, 4096, .inl T)), (mU, .inl (cI, 4096, .inl (gF U 0 (fun j => K (a1 + j)) i))), (mV, .inl (cI, 4096, .inl (gF V 0 (fun j => T (a1 + j)) i)))] H → va_D A [(m0, .inr (2, [.int (nI 0), .int (nI cap), .ref mK, .ref mT, .ref mU, .ref mV, .int (nI n), .int (nI hi), .int (nI ru), .ref mL, .int (nI me), .long (lN mp), .ref mS, .int (nI pd), .int (nI ht)])), (mK, .inl (cI, 4096, .inl K)), (mT, .inl (cI, 4096, .inl T)), (mU, .inl (cI, 4096, .inl (gF U 0 (fun j => K (a1 + j)) i))), (mV, .inl (cI, 4096, .inl (gF V 0 (fun j => T (a1 + j)) i)))] → va_S A s.heap H locs → lv_has ls 4 [(3, .int (nI i)), (0, .ref m0), (1, .int (nI a1)), (2, .int (nI b1))] → W p l e rmX2_turn s m args below meth c H locs 0 0 Q (F0 m 35 ls []) := by
            intro kq
            induction kq with
            | zero =>
              intro i h1 hm
              exact absurd hm (Nat.not_lt_zero _)
            | succ kq ih_c =>
              intro i h1 hm H locs ls hP hD hS hl
              refine lv_iload_n hx hb dX2_turn_35 rfl (lv_at hl 0 rfl) ?_
              refine lv_iload_n hx hb dX2_turn_36 rfl (lv_at hl 3 rfl) ?_
              refine xr_icmp_ge (tgt := 74) hx hb dX2_turn_37 (by decide) (by omega) (by omega) (fun c_37 => ?_) (fun c_37 => ?_)
              · have hi9 : i = b1 := by omega
                rw [hi9] at hP hD
                refine lv_iconst (v := nI 0) hx hb dX2_turn_74 (by decide) ?_
                refine lv_istore_n (lv' := [(3, .int (nI 0)), (0, .ref m0), (1, .int (nI a1)), (2, .int (nI b1))]) hx hb dX2_turn_75 rfl hl (by decide) rfl (fun ls hl => ?_)
                have L_d : ∀ (kq : Nat) (i : Nat), (i ≤ b1) → b1 - i < kq → ∀ (H : Heap) (locs : List Loc) (ls : Array Slot), va_P (dC, dI) vwCl [(m0, .inr (2, [.int (nI 0), .int (nI cap), .ref mK, .ref mT, .ref mU, .ref mV, .int (nI n), .int (nI hi), .int (nI ru), .ref mL, .int (nI me), .long (lN mp), .ref mS, .int (nI pd), .int (nI ht)])), (mK, .inl (cI, 4096, .inl (gF K a1 (fun j => gF U 0 (fun j => K (a1 + j)) b1 (b1 - 1 - j)) i))), (mT, .inl (cI, 4096, .inl (gF T a1 (fun j => gF V 0 (fun j => T (a1 + j)) b1 (b1 - 1 - j)) i))), (mU, .inl (cI, 4096, .inl (gF U 0 (fun j => K (a1 + j)) b1))), (mV, .inl (cI, 4096, .inl (gF V 0 (fun j => T (a1 + j)) b1)))] H → va_D A [(m0, .inr (2, [.int (nI 0), .int (nI cap), .ref mK, .ref mT, .ref mU, .ref mV, .int (nI n), .int (nI hi), .int (nI ru), .ref mL, .int (nI me), .long (lN mp), .ref mS, .int (nI pd), .int (nI ht)])), (mK, .inl (cI, 4096, .inl (gF K a1 (fun j => gF U 0 (fun j => K (a1 + j)) b1 (b1 - 1 - j)) i))), (mT, .inl (cI, 4096, .inl (gF T a1 (fun j => gF V 0 (fun j => T (a1 + j)) b1 (b1 - 1 - j)) i))), (mU, .inl (cI, 4096, .inl (gF U 0 (fun j => K (a1 + j)) b1))), (mV, .inl (cI, 4096, .inl (gF V 0 (fun j => T (a1 + j)) b1)))] → va_S A s.heap H locs → lv_has ls 4 [(3, .int (nI i)), (0, .ref m0), (1, .int (nI a1)), (2, .int (nI b1))] → W p l e rmX2_turn s m args below meth c H locs 0 0 Q (F0 m 76 ls []) := by
                  intro kq
                  induction kq with
                  | zero =>
                    intro i h1 hm
                    exact absurd hm (Nat.not_lt_zero _)
                  | succ kq ih_d =>
                    intro i h1 hm H locs ls hP hD hS hl
                    refine lv_iload_n hx hb dX2_turn_76 rfl (lv_at hl 0 rfl) ?_
                    refine lv_iload_n hx hb dX2_turn_77 rfl (lv_at hl 3 rfl) ?_
                    refine xr_icmp_ge (tgt := 123) hx hb dX2_turn_78 (by decide) (by omega) (by omega) (fun c_78 => ?_) (fun c_78 => ?_)
                    · have hi9 : i = b1 := by omega
                      rw [hi9, trG_eq, trG_eq] at hP hD
                      refine lv_iload_n hx hb dX2_turn_123 rfl (lv_at hl 3 rfl) ?_
                      exact hret (trG K a1 b1, trG T a1 b1, gF U 0 (fun j => K (a1 + j)) b1, gF V 0 (fun j => T (a1 + j)) b1) _ _ _ _ _ _ _ (Or.inl ⟨a1, b1, by omega, rfl, rfl, rfl, rfl, rfl⟩) hP hK hD hS (Nat.le_of_ble_eq_true rfl) (Nat.le_of_ble_eq_true rfl) (rfl) dX2_turn_124
                    · refine lv_aload_n hx hb dX2_turn_81 rfl (lv_at hl 1 rfl) ?_
                      refine va_get (D := (dC, dI)) (ci := 2) (v := .ref mK) (C := RX2) (T := TX2) (N := 15) hx hb hts hin_2 hown hK hP 0 rfl rfl 2 (by decide) k_3 (fun _ h9 => h9) rfl dX2_turn_82 ?_
                      refine lv_iload_n hx hb dX2_turn_85 rfl (lv_at hl 2 rfl) ?_
                      refine lv_iload_n hx hb dX2_turn_86 rfl (lv_at hl 0 rfl) ?_
                      refine xr_iadd hx hb dX2_turn_87 ?_
                      refine lv_aload_n hx hb dX2_turn_88 rfl (lv_at hl 1 rfl) ?_
                      refine va_get (D := (dC, dI)) (ci := 2) (v := .ref mU) (C := RX2) (T := TX2) (N := 15) hx hb hts hin_2 hown hK hP 0 rfl rfl 4 (by decide) k_4 (fun _ h9 => h9) rfl dX2_turn_89 ?_
                      refine lv_iload_n hx hb dX2_turn_92 rfl (lv_at hl 3 rfl) ?_
                      refine lv_iconst (v := nI 1) hx hb dX2_turn_93 (by decide) ?_
                      refine xr_isub hx hb dX2_turn_94 (by omega) ?_
                      refine lv_iload_n hx hb dX2_turn_95 rfl (lv_at hl 0 rfl) ?_
                      refine xr_isub hx hb dX2_turn_96 (by omega) ?_
                      refine xr_iald hx hb hK hP 3 1 rfl rfl (by omega) (by omega) dX2_turn_97 ?_
                      refine xr_iast hx hb hK hP hD hS 1 1 rfl rfl (by omega) (by omega) dX2_turn_98 (fun H locs hP hD hS => ?_)
                      have hP : va_P (dC, dI) vwCl [(m0, .inr (2, [.int (nI 0), .int (nI cap), .ref mK, .ref mT, .ref mU, .ref mV, .int (nI n), .int (nI hi), .int (nI ru), .ref mL, .int (nI me), .long (lN mp), .ref mS, .int (nI pd), .int (nI ht)])), (mK, .inl (cI, 4096, .inl (uN_up (gF K a1 (fun j => gF U 0 (fun j => K (a1 + j)) b1 (b1 - 1 - j)) i) (a1 + i) ((gF U 0 (fun j => K (a1 + j)) b1) (b1 - 1 - i))))), (mT, .inl (cI, 4096, .inl (gF T a1 (fun j => gF V 0 (fun j => T (a1 + j)) b1 (b1 - 1 - j)) i))), (mU, .inl (cI, 4096, .inl (gF U 0 (fun j => K (a1 + j)) b1))), (mV, .inl (cI, 4096, .inl (gF V 0 (fun j => T (a1 + j)) b1)))] H := hP
                      have hD : va_D A [(m0, .inr (2, [.int (nI 0), .int (nI cap), .ref mK, .ref mT, .ref mU, .ref mV, .int (nI n), .int (nI hi), .int (nI ru), .ref mL, .int (nI me), .long (lN mp), .ref mS, .int (nI pd), .int (nI ht)])), (mK, .inl (cI, 4096, .inl (uN_up (gF K a1 (fun j => gF U 0 (fun j => K (a1 + j)) b1 (b1 - 1 - j)) i) (a1 + i) ((gF U 0 (fun j => K (a1 + j)) b1) (b1 - 1 - i))))), (mT, .inl (cI, 4096, .inl (gF T a1 (fun j => gF V 0 (fun j => T (a1 + j)) b1 (b1 - 1 - j)) i))), (mU, .inl (cI, 4096, .inl (gF U 0 (fun j => K (a1 + j)) b1))), (mV, .inl (cI, 4096, .inl (gF V 0 (fun j => T (a1 + j)) b1)))] := hD
                      refine lv_aload_n hx hb dX2_turn_99 rfl (lv_at hl 1 rfl) ?_
                      refine va_get (D := (dC, dI)) (ci := 2) (v := .ref mT) (C := RX2) (T := TX2) (N := 15) hx hb hts hin_2 hown hK hP 0 rfl rfl 3 (by decide) k_5 (fun _ h9 => h9) rfl dX2_turn_100 ?_
                      refine lv_iload_n hx hb dX2_turn_103 rfl (lv_at hl 2 rfl) ?_
                      refine lv_iload_n hx hb dX2_turn_104 rfl (lv_at hl 0 rfl) ?_
                      refine xr_iadd hx hb dX2_turn_105 ?_
                      refine lv_aload_n hx hb dX2_turn_106 rfl (lv_at hl 1 rfl) ?_
                      refine va_get (D := (dC, dI)) (ci := 2) (v := .ref mV) (C := RX2) (T := TX2) (N := 15) hx hb hts hin_2 hown hK hP 0 rfl rfl 5 (by decide) k_6 (fun _ h9 => h9) rfl dX2_turn_107 ?_
                      refine lv_iload_n hx hb dX2_turn_110 rfl (lv_at hl 3 rfl) ?_
                      refine lv_iconst (v := nI 1) hx hb dX2_turn_111 (by decide) ?_
                      refine xr_isub hx hb dX2_turn_112 (by omega) ?_
                      refine lv_iload_n hx hb dX2_turn_113 rfl (lv_at hl 0 rfl) ?_
                      refine xr_isub hx hb dX2_turn_114 (by omega) ?_
                      refine xr_iald hx hb hK hP 4 1 rfl rfl (by omega) (by omega) dX2_turn_115 ?_
                      refine xr_iast hx hb hK hP hD hS 2 1 rfl rfl (by omega) (by omega) dX2_turn_116 (fun H locs hP hD hS => ?_)
                      have hP : va_P (dC, dI) vwCl [(m0, .inr (2, [.int (nI 0), .int (nI cap), .ref mK, .ref mT, .ref mU, .ref mV, .int (nI n), .int (nI hi), .int (nI ru), .ref mL, .int (nI me), .long (lN mp), .ref mS, .int (nI pd), .int (nI ht)])), (mK, .inl (cI, 4096, .inl (uN_up (gF K a1 (fun j => gF U 0 (fun j => K (a1 + j)) b1 (b1 - 1 - j)) i) (a1 + i) ((gF U 0 (fun j => K (a1 + j)) b1) (b1 - 1 - i))))), (mT, .inl (cI, 4096, .inl (uN_up (gF T a1 (fun j => gF V 0 (fun j => T (a1 + j)) b1 (b1 - 1 - j)) i) (a1 + i) ((gF V 0 (fun j => T (a1 + j)) b1) (b1 - 1 - i))))), (mU, .inl (cI, 4096, .inl (gF U 0 (fun j => K (a1 + j)) b1))), (mV, .inl (cI, 4096, .inl (gF V 0 (fun j => T (a1 + j)) b1)))] H := hP
                      have hD : va_D A [(m0, .inr (2, [.int (nI 0), .int (nI cap), .ref mK, .ref mT, .ref mU, .ref mV, .int (nI n), .int (nI hi), .int (nI ru), .ref mL, .int (nI me), .long (lN mp), .ref mS, .int (nI pd), .int (nI ht)])), (mK, .inl (cI, 4096, .inl (uN_up (gF K a1 (fun j => gF U 0 (fun j => K (a1 + j)) b1 (b1 - 1 - j)) i) (a1 + i) ((gF U 0 (fun j => K (a1 + j)) b1) (b1 - 1 - i))))), (mT, .inl (cI, 4096, .inl (uN_up (gF T a1 (fun j => gF V 0 (fun j => T (a1 + j)) b1 (b1 - 1 - j)) i) (a1 + i) ((gF V 0 (fun j => T (a1 + j)) b1) (b1 - 1 - i))))), (mU, .inl (cI, 4096, .inl (gF U 0 (fun j => K (a1 + j)) b1))), (mV, .inl (cI, 4096, .inl (gF V 0 (fun j => T (a1 + j)) b1)))] := hD
                      refine lv_iinc (v := nI (i + 1)) (lv' := [(3, .int (nI (i + 1))), (0, .ref m0), (1, .int (nI a1)), (2, .int (nI b1))]) hx hb dX2_turn_117 hl (k := 0) rfl (nI_add i 1) (by decide) rfl (fun ls hl => ?_)
                      refine lv_goto (tgt := 76) hx hb dX2_turn_120 (by decide) ?_
                      exact ih_d (i + 1) (by omega) (by omega) _ _ _ (by rw [← gF_s K a1 (fun j => gF U 0 (fun j => K (a1 + j)) b1 (b1 - 1 - j)) i, ← gF_s T a1 (fun j => gF V 0 (fun j => T (a1 + j)) b1 (b1 - 1 - j)) i]; exact hP) (by rw [← gF_s K a1 (fun j => gF U 0 (fun j => K (a1 + j)) b1 (b1 - 1 - j)) i, ← gF_s T a1 (fun j => gF V 0 (fun j => T (a1 + j)) b1 (b1 - 1 - j)) i]; exact hD) hS (lv_sub hl [0, 1, 2, 3] rfl)
                exact L_d (_ + 1) 0 (Nat.zero_le _) (Nat.lt_succ_self _) _ _ _ (by rw [gF_0, gF_0]; exact hP) (by rw [gF_0, gF_0]; exact hD) hS (lv_sub hl [0, 1, 2, 3] rfl)
              · refine lv_aload_n hx hb dX2_turn_40 rfl (lv_at hl 1 rfl) ?_
                refine va_get (D := (dC, dI)) (ci := 2) (v := .ref mU) (C := RX2) (T := TX2) (N := 15) hx hb hts hin_2 hown hK hP 0 rfl rfl 4 (by decide) k_4 (fun _ h9 => h9) rfl dX2_turn_41 ?_
                refine lv_iload_n hx hb dX2_turn_44 rfl (lv_at hl 0 rfl) ?_
                refine lv_aload_n hx hb dX2_turn_45 rfl (lv_at hl 1 rfl) ?_
                refine va_get (D := (dC, dI)) (ci := 2) (v := .ref mK) (C := RX2) (T := TX2) (N := 15) hx hb hts hin_2 hown hK hP 0 rfl rfl 2 (by decide) k_3 (fun _ h9 => h9) rfl dX2_turn_46 ?_
                refine lv_iload_n hx hb dX2_turn_49 rfl (lv_at hl 2 rfl) ?_
                refine lv_iload_n hx hb dX2_turn_50 rfl (lv_at hl 0 rfl) ?_
                refine xr_iadd hx hb dX2_turn_51 ?_
                refine xr_iald hx hb hK hP 1 1 rfl rfl (by omega) (by omega) dX2_turn_52 ?_
                refine xr_iast hx hb hK hP hD hS 3 1 rfl rfl (by omega) (by omega) dX2_turn_53 (fun H locs hP hD hS => ?_)
                have hP : va_P (dC, dI) vwCl [(m0, .inr (2, [.int (nI 0), .int (nI cap), .ref mK, .ref mT, .ref mU, .ref mV, .int (nI n), .int (nI hi), .int (nI ru), .ref mL, .int (nI me), .long (lN mp), .ref mS, .int (nI pd), .int (nI ht)])), (mK, .inl (cI, 4096, .inl K)), (mT, .inl (cI, 4096, .inl T)), (mU, .inl (cI, 4096, .inl (uN_up (gF U 0 (fun j => K (a1 + j)) i) i (K (a1 + i))))), (mV, .inl (cI, 4096, .inl (gF V 0 (fun j => T (a1 + j)) i)))] H := hP
                have hD : va_D A [(m0, .inr (2, [.int (nI 0), .int (nI cap), .ref mK, .ref mT, .ref mU, .ref mV, .int (nI n), .int (nI hi), .int (nI ru), .ref mL, .int (nI me), .long (lN mp), .ref mS, .int (nI pd), .int (nI ht)])), (mK, .inl (cI, 4096, .inl K)), (mT, .inl (cI, 4096, .inl T)), (mU, .inl (cI, 4096, .inl (uN_up (gF U 0 (fun j => K (a1 + j)) i) i (K (a1 + i))))), (mV, .inl (cI, 4096, .inl (gF V 0 (fun j => T (a1 + j)) i)))] := hD
                refine lv_aload_n hx hb dX2_turn_54 rfl (lv_at hl 1 rfl) ?_
                refine va_get (D := (dC, dI)) (ci := 2) (v := .ref mV) (C := RX2) (T := TX2) (N := 15) hx hb hts hin_2 hown hK hP 0 rfl rfl 5 (by decide) k_6 (fun _ h9 => h9) rfl dX2_turn_55 ?_
                refine lv_iload_n hx hb dX2_turn_58 rfl (lv_at hl 0 rfl) ?_
                refine lv_aload_n hx hb dX2_turn_59 rfl (lv_at hl 1 rfl) ?_
                refine va_get (D := (dC, dI)) (ci := 2) (v := .ref mT) (C := RX2) (T := TX2) (N := 15) hx hb hts hin_2 hown hK hP 0 rfl rfl 3 (by decide) k_5 (fun _ h9 => h9) rfl dX2_turn_60 ?_
                refine lv_iload_n hx hb dX2_turn_63 rfl (lv_at hl 2 rfl) ?_
                refine lv_iload_n hx hb dX2_turn_64 rfl (lv_at hl 0 rfl) ?_
                refine xr_iadd hx hb dX2_turn_65 ?_
                refine xr_iald hx hb hK hP 2 1 rfl rfl (by omega) (by omega) dX2_turn_66 ?_
                refine xr_iast hx hb hK hP hD hS 4 1 rfl rfl (by omega) (by omega) dX2_turn_67 (fun H locs hP hD hS => ?_)
                have hP : va_P (dC, dI) vwCl [(m0, .inr (2, [.int (nI 0), .int (nI cap), .ref mK, .ref mT, .ref mU, .ref mV, .int (nI n), .int (nI hi), .int (nI ru), .ref mL, .int (nI me), .long (lN mp), .ref mS, .int (nI pd), .int (nI ht)])), (mK, .inl (cI, 4096, .inl K)), (mT, .inl (cI, 4096, .inl T)), (mU, .inl (cI, 4096, .inl (uN_up (gF U 0 (fun j => K (a1 + j)) i) i (K (a1 + i))))), (mV, .inl (cI, 4096, .inl (uN_up (gF V 0 (fun j => T (a1 + j)) i) i (T (a1 + i)))))] H := hP
                have hD : va_D A [(m0, .inr (2, [.int (nI 0), .int (nI cap), .ref mK, .ref mT, .ref mU, .ref mV, .int (nI n), .int (nI hi), .int (nI ru), .ref mL, .int (nI me), .long (lN mp), .ref mS, .int (nI pd), .int (nI ht)])), (mK, .inl (cI, 4096, .inl K)), (mT, .inl (cI, 4096, .inl T)), (mU, .inl (cI, 4096, .inl (uN_up (gF U 0 (fun j => K (a1 + j)) i) i (K (a1 + i))))), (mV, .inl (cI, 4096, .inl (uN_up (gF V 0 (fun j => T (a1 + j)) i) i (T (a1 + i)))))] := hD
                refine lv_iinc (v := nI (i + 1)) (lv' := [(3, .int (nI (i + 1))), (0, .ref m0), (1, .int (nI a1)), (2, .int (nI b1))]) hx hb dX2_turn_68 hl (k := 0) rfl (nI_add i 1) (by decide) rfl (fun ls hl => ?_)
                refine lv_goto (tgt := 35) hx hb dX2_turn_71 (by decide) ?_
                exact ih_c (i + 1) (by omega) (by omega) _ _ _ (by rw [← gF_s0 U (fun j => K (a1 + j)) i, ← gF_s0 V (fun j => T (a1 + j)) i]; exact hP) (by rw [← gF_s0 U (fun j => K (a1 + j)) i, ← gF_s0 V (fun j => T (a1 + j)) i]; exact hD) hS (lv_sub hl [0, 1, 2, 3] rfl)
          exact L_c (_ + 1) 0 (Nat.zero_le _) (Nat.lt_succ_self _) _ _ _ (by rw [gF_0, gF_0]; exact hP) (by rw [gF_0, gF_0]; exact hD) hS (lv_sub hl [0, 1, 2, 3] rfl)
        · have hno : ¬ trC (nI a1) (nI b1) n := by
            rintro ⟨a2, b2, h1, h2, h3⟩
            have e1 := (nI_eq ha1 (by omega)).mp h2
            have e2 := (nI_eq hb1 (by omega)).mp h3
            omega
          refine lv_iconst (v := nI 0) hx hb dX2_turn_31 (by decide) ?_
          exact hret (K, T, U, V) _ _ _ _ _ _ _ (Or.inr ⟨hno, rfl, rfl, rfl⟩) hP hK hD hS (Nat.le_of_ble_eq_true rfl) (Nat.le_of_ble_eq_true rfl) (rfl) dX2_turn_32
abbrev rmX2_least : Room := { frames := 0, cells := 0, slots := 0, locals := 0 }
set_option maxRecDepth 100000 in
set_option maxHeartbeats 4000000 in
theorem c_X2_least (l : Launch) (dC : Nat → ClassId) (dI : Nat → Nat → Nat) (cJ cI : ClassId) (n : Nat) (hn : n < 2 ^ 30) : CI l yX2_least wsX2_least rmX2_least [.int (nI n)] (dC, dI) vwCl (KT cJ cI) [] (S := Unit) (fun r _ => r = nI (lsR n 0)) (fun _ => KT cJ cI) (fun _ => []) := by
  refine CI.mk (by decide) rfl (Nat.le_of_ble_eq_true rfl) ?_
  intro p e s m args below meth c A Q ls hx hb hml hown hts hA hS hP hD hK hN hl hret
  have hl : lv_has ls 3 [(0, .int (nI n))] := hl
  refine lv_iload_n hx hb dX2_least_0 rfl (lv_at hl 0 rfl) ?_
  refine lv_istore_n (lv' := [(1, .int (nI n)), (0, .int (nI n))]) hx hb dX2_least_1 rfl hl (by decide) rfl (fun ls hl => ?_)
  refine lv_iconst (v := nI 0) hx hb dX2_least_2 (by decide) ?_
  refine lv_istore_n (lv' := [(2, .int (nI 0)), (1, .int (nI n)), (0, .int (nI n))]) hx hb dX2_least_3 rfl hl (by decide) rfl (fun ls hl => ?_)
  have L_s : ∀ (kq : Nat) (v q : Nat), (v < 2 ^ 30) → (q ≤ 1) → (lsR v q = lsR n 0) → v < kq → ∀ (H : Heap) (locs : List Loc) (ls : Array Slot), va_P (dC, dI) vwCl [] H → va_D A [] → va_S A s.heap H locs → lv_has ls 3 [(1, .int (nI v)), (2, .int (nI q)), (0, .int (nI n))] → W p l e rmX2_least s m args below meth c H locs 0 0 Q (F0 m 4 ls []) := by
    intro kq
    induction kq with
    | zero =>
      intro v q h1 h2 h3 hm
      exact absurd hm (Nat.not_lt_zero _)
    | succ kq ih_s =>
      intro v q h1 h2 h3 hm H locs ls hP hD hS hl
      refine lv_iload_n hx hb dX2_least_4 rfl (lv_at hl 0 rfl) ?_
      refine lv_bipush (v := nI 31) hx hb dX2_least_5 (by decide) ?_
      refine xr_icmp_le (tgt := 34) hx hb dX2_least_7 (by decide) (by omega) (by omega) (fun c_7 => ?_) (fun c_7 => ?_)
      · refine lv_iload_n hx hb dX2_least_34 rfl (lv_at hl 1 rfl) ?_
        refine xr_if_eq (tgt := 44) hx hb dX2_least_35 (by decide) (by omega) (fun c_35 => ?_) (fun c_35 => ?_)
        · have hr9 : nI v = nI (lsR n 0) := by rw [← h3, lsR_lt (by omega)]; congr 1; omega
          refine lv_iload_n hx hb dX2_least_44 rfl (lv_at hl 0 rfl) ?_
          exact hret () _ _ _ _ _ _ _ (hr9) hP hK hD hS (Nat.le_of_ble_eq_true rfl) (Nat.le_of_ble_eq_true rfl) (rfl) dX2_least_45
        · have hr9 : nI (v + 1) = nI (lsR n 0) := by rw [← h3, lsR_lt (by omega)]; congr 1; omega
          refine lv_iload_n hx hb dX2_least_38 rfl (lv_at hl 0 rfl) ?_
          refine lv_iconst (v := nI 1) hx hb dX2_least_39 (by decide) ?_
          refine xr_iadd hx hb dX2_least_40 ?_
          refine lv_goto (tgt := 45) hx hb dX2_least_41 (by decide) ?_
          exact hret () _ _ _ _ _ _ _ (hr9) hP hK hD hS (Nat.le_of_ble_eq_true rfl) (Nat.le_of_ble_eq_true rfl) (rfl) dX2_least_45
      · refine lv_iload_n hx hb dX2_least_10 rfl (lv_at hl 1 rfl) ?_
        refine xr_if_ne (tgt := 21) hx hb dX2_least_11 (by decide) (by omega) (fun c_11 => ?_) (fun c_11 => ?_)
        · have hv9 : nI 1 = nI (if q = 1 ∨ v % 2 = 1 then 1 else 0) := by rw [if_pos (by omega)]
          refine lv_iconst (v := nI 1) hx hb dX2_least_21 (by decide) ?_
          refine lv_goto (tgt := 26) hx hb dX2_least_22 (by decide) ?_
          refine xr_top (y := nI (if q = 1 ∨ v % 2 = 1 then 1 else 0)) (hv9) ?_
          refine lv_istore_n (lv' := [(2, .int (nI (if q = 1 ∨ v % 2 = 1 then 1 else 0))), (1, .int (nI v)), (0, .int (nI n))]) hx hb dX2_least_26 rfl hl (by decide) rfl (fun ls hl => ?_)
          refine lv_iload_n hx hb dX2_least_27 rfl (lv_at hl 1 rfl) ?_
          refine lv_iconst (v := nI 2) hx hb dX2_least_28 (by decide) ?_
          refine xr_idiv hx hb dX2_least_29 (by omega) (by omega) (by omega) ?_
          refine lv_istore_n (lv' := [(1, .int (nI (v / 2))), (2, .int (nI (if q = 1 ∨ v % 2 = 1 then 1 else 0))), (0, .int (nI n))]) hx hb dX2_least_30 rfl hl (by decide) rfl (fun ls hl => ?_)
          refine lv_goto (tgt := 4) hx hb dX2_least_31 (by decide) ?_
          exact ih_s (v / 2) (if q = 1 ∨ v % 2 = 1 then 1 else 0) (by omega) (by split <;> omega) ((lsR_ge (v := v) (c := q) (by omega)).symm.trans h3) (by omega) _ _ _ hP hD hS (lv_sub hl [0, 1, 2] rfl)
        · refine lv_iload_n hx hb dX2_least_14 rfl (lv_at hl 0 rfl) ?_
          refine lv_iconst (v := nI 2) hx hb dX2_least_15 (by decide) ?_
          refine lv_irem hx hb dX2_least_16 (by decide) ?_
          refine xr_top (y := nI (v % 2)) (pk_rem (a := v) (d := 2) (by omega) (by decide) (by decide)) ?_
          refine lv_iconst (v := nI 1) hx hb dX2_least_17 (by decide) ?_
          refine xr_icmp_ne (tgt := 25) hx hb dX2_least_18 (by decide) (by omega) (by omega) (fun c_18 => ?_) (fun c_18 => ?_)
          · have hv9 : nI 0 = nI (if q = 1 ∨ v % 2 = 1 then 1 else 0) := by rw [if_neg (by omega)]
            refine lv_iconst (v := nI 0) hx hb dX2_least_25 (by decide) ?_
            refine xr_top (y := nI (if q = 1 ∨ v % 2 = 1 then 1 else 0)) (hv9) ?_
            refine lv_istore_n (lv' := [(2, .int (nI (if q = 1 ∨ v % 2 = 1 then 1 else 0))), (1, .int (nI v)), (0, .int (nI n))]) hx hb dX2_least_26 rfl hl (by decide) rfl (fun ls hl => ?_)
            refine lv_iload_n hx hb dX2_least_27 rfl (lv_at hl 1 rfl) ?_
            refine lv_iconst (v := nI 2) hx hb dX2_least_28 (by decide) ?_
            refine xr_idiv hx hb dX2_least_29 (by omega) (by omega) (by omega) ?_
            refine lv_istore_n (lv' := [(1, .int (nI (v / 2))), (2, .int (nI (if q = 1 ∨ v % 2 = 1 then 1 else 0))), (0, .int (nI n))]) hx hb dX2_least_30 rfl hl (by decide) rfl (fun ls hl => ?_)
            refine lv_goto (tgt := 4) hx hb dX2_least_31 (by decide) ?_
            exact ih_s (v / 2) (if q = 1 ∨ v % 2 = 1 then 1 else 0) (by omega) (by split <;> omega) ((lsR_ge (v := v) (c := q) (by omega)).symm.trans h3) (by omega) _ _ _ hP hD hS (lv_sub hl [0, 1, 2] rfl)
          · have hv9 : nI 1 = nI (if q = 1 ∨ v % 2 = 1 then 1 else 0) := by rw [if_pos (by omega)]
            refine lv_iconst (v := nI 1) hx hb dX2_least_21 (by decide) ?_
            refine lv_goto (tgt := 26) hx hb dX2_least_22 (by decide) ?_
            refine xr_top (y := nI (if q = 1 ∨ v % 2 = 1 then 1 else 0)) (hv9) ?_
            refine lv_istore_n (lv' := [(2, .int (nI (if q = 1 ∨ v % 2 = 1 then 1 else 0))), (1, .int (nI v)), (0, .int (nI n))]) hx hb dX2_least_26 rfl hl (by decide) rfl (fun ls hl => ?_)
            refine lv_iload_n hx hb dX2_least_27 rfl (lv_at hl 1 rfl) ?_
            refine lv_iconst (v := nI 2) hx hb dX2_least_28 (by decide) ?_
            refine xr_idiv hx hb dX2_least_29 (by omega) (by omega) (by omega) ?_
            refine lv_istore_n (lv' := [(1, .int (nI (v / 2))), (2, .int (nI (if q = 1 ∨ v % 2 = 1 then 1 else 0))), (0, .int (nI n))]) hx hb dX2_least_30 rfl hl (by decide) rfl (fun ls hl => ?_)
            refine lv_goto (tgt := 4) hx hb dX2_least_31 (by decide) ?_
            exact ih_s (v / 2) (if q = 1 ∨ v % 2 = 1 then 1 else 0) (by omega) (by split <;> omega) ((lsR_ge (v := v) (c := q) (by omega)).symm.trans h3) (by omega) _ _ _ hP hD hS (lv_sub hl [0, 1, 2] rfl)
  exact L_s (_ + 1) n 0 (by omega) (by omega) rfl (Nat.lt_succ_self _) _ _ _ hP hD hS (lv_sub hl [1, 0, 2] rfl)
abbrev rmX2_found : Room := { frames := 0, cells := 0, slots := 0, locals := 0 }
set_option maxRecDepth 100000 in
set_option maxHeartbeats 4000000 in
theorem c_X2_found (l : Launch) (dC : Nat → ClassId) (dI : Nat → Nat → Nat) (cJ cI : ClassId) (m0 mK mT mU mV mL mS th cap n hi ru me mp pd ht : Nat) (K : Nat → Int32) (a : Nat) (ha : a < n) (hn : n ≤ 4096) : CI l yX2_found wsX2_found rmX2_found [.ref m0, .int (nI a)] (dC, dI) vwCl (KT cJ cI) [(m0, .inr (2, [.int (nI th), .int (nI cap), .ref mK, .ref mT, .ref mU, .ref mV, .int (nI n), .int (nI hi), .int (nI ru), .ref mL, .int (nI me), .long (lN mp), .ref mS, .int (nI pd), .int (nI ht)])), (mK, .inl (cI, 4096, .inl K))] (S := Unit) (fun r _ => r = nI (fnd (kG K) a n)) (fun _ => KT cJ cI) (fun _ => [(m0, .inr (2, [.int (nI th), .int (nI cap), .ref mK, .ref mT, .ref mU, .ref mV, .int (nI n), .int (nI hi), .int (nI ru), .ref mL, .int (nI me), .long (lN mp), .ref mS, .int (nI pd), .int (nI ht)])), (mK, .inl (cI, 4096, .inl K))]) := by
  refine CI.mk (by decide) rfl (Nat.le_of_ble_eq_true rfl) ?_
  intro p e s m args below meth c A Q ls hx hb hml hown hts hA hS hP hD hK hN hl hret
  have hl : lv_has ls 3 [(0, .ref m0), (1, .int (nI a))] := hl
  have hin_2 : ∀ w ∈ u_ws RX2 TX2 15, w ∈ wsX2_found := by decide +kernel
  have k_1 := hts (Cond.fieldLink RX2 35 "PairSorterModel" "size" "I") (by decide +kernel)
  have k_2 := hts (Cond.fieldLink RX2 7 "PairSorterModel" "keys" "[I") (by decide +kernel)
  refine lv_iconst (v := nI 1) hx hb dX2_found_0 (by decide) ?_
  refine lv_istore_n (lv' := [(2, .int (nI 1)), (0, .ref m0), (1, .int (nI a))]) hx hb dX2_found_1 rfl hl (by decide) rfl (fun ls hl => ?_)
  refine lv_iload_n hx hb dX2_found_2 rfl (lv_at hl 2 rfl) ?_
  refine lv_iconst (v := nI 1) hx hb dX2_found_3 (by decide) ?_
  refine xr_iadd hx hb dX2_found_4 ?_
  refine lv_aload_n hx hb dX2_found_5 rfl (lv_at hl 1 rfl) ?_
  refine va_get (D := (dC, dI)) (ci := 2) (v := .int (nI n)) (C := RX2) (T := TX2) (N := 15) hx hb hts hin_2 hown hK hP 0 rfl rfl 6 (by decide) k_1 (fun _ h9 => h9) rfl dX2_found_6 ?_
  refine xr_icmp_ge (tgt := 66) hx hb dX2_found_9 (by decide) (by omega) (by omega) (fun c_9 => ?_) (fun c_9 => ?_)
  · have hst : 1 + cnt (nfl (kG K)) (a + 1) (n - (a + 1)) = fnd (kG K) a n := by unfold fnd; rw [show n - (a + 1) = 0 by omega, if_pos (show cnt (fl (kG K)) (a + 1) 0 = 0 from rfl)]
    have L_u : ∀ (kq : Nat) (i : Nat), (1 ≤ i) → (a + i ≤ n) → (i + cnt (nfl (kG K)) (a + i) (n - (a + i)) = fnd (kG K) a n) → n - (a + i) < kq → ∀ (H : Heap) (locs : List Loc) (ls : Array Slot), va_P (dC, dI) vwCl [(m0, .inr (2, [.int (nI th), .int (nI cap), .ref mK, .ref mT, .ref mU, .ref mV, .int (nI n), .int (nI hi), .int (nI ru), .ref mL, .int (nI me), .long (lN mp), .ref mS, .int (nI pd), .int (nI ht)])), (mK, .inl (cI, 4096, .inl K))] H → va_D A [(m0, .inr (2, [.int (nI th), .int (nI cap), .ref mK, .ref mT, .ref mU, .ref mV, .int (nI n), .int (nI hi), .int (nI ru), .ref mL, .int (nI me), .long (lN mp), .ref mS, .int (nI pd), .int (nI ht)])), (mK, .inl (cI, 4096, .inl K))] → va_S A s.heap H locs → lv_has ls 3 [(2, .int (nI i)), (0, .ref m0), (1, .int (nI a))] → W p l e rmX2_found s m args below meth c H locs 0 0 Q (F0 m 66 ls []) := by
      intro kq
      induction kq with
      | zero =>
        intro i h1 h2 h3 hm
        exact absurd hm (Nat.not_lt_zero _)
      | succ kq ih_u =>
        intro i h1 h2 h3 hm H locs ls hP hD hS hl
        refine lv_iload_n hx hb dX2_found_66 rfl (lv_at hl 2 rfl) ?_
        refine lv_iload_n hx hb dX2_found_67 rfl (lv_at hl 0 rfl) ?_
        refine xr_iadd hx hb dX2_found_68 ?_
        refine lv_aload_n hx hb dX2_found_69 rfl (lv_at hl 1 rfl) ?_
        refine va_get (D := (dC, dI)) (ci := 2) (v := .int (nI n)) (C := RX2) (T := TX2) (N := 15) hx hb hts hin_2 hown hK hP 0 rfl rfl 6 (by decide) k_1 (fun _ h9 => h9) rfl dX2_found_70 ?_
        refine xr_icmp_ge (tgt := 103) hx hb dX2_found_73 (by decide) (by omega) (by omega) (fun c_73 => ?_) (fun c_73 => ?_)
        · have h9 : i = fnd (kG K) a n := by rw [show n - (a + i) = 0 by omega] at h3; exact h3
          refine lv_iload_n hx hb dX2_found_103 rfl (lv_at hl 0 rfl) ?_
          exact hret () _ _ _ _ _ _ _ (congrArg nI h9) hP hK hD hS (Nat.le_of_ble_eq_true rfl) (Nat.le_of_ble_eq_true rfl) (rfl) dX2_found_104
        · refine lv_aload_n hx hb dX2_found_76 rfl (lv_at hl 1 rfl) ?_
          refine va_get (D := (dC, dI)) (ci := 2) (v := .ref mK) (C := RX2) (T := TX2) (N := 15) hx hb hts hin_2 hown hK hP 0 rfl rfl 2 (by decide) k_2 (fun _ h9 => h9) rfl dX2_found_77 ?_
          refine lv_iload_n hx hb dX2_found_80 rfl (lv_at hl 2 rfl) ?_
          refine lv_iload_n hx hb dX2_found_81 rfl (lv_at hl 0 rfl) ?_
          refine xr_iadd hx hb dX2_found_82 ?_
          refine xr_iald hx hb hK hP 1 1 rfl rfl (by omega) (by omega) dX2_found_83 ?_
          refine lv_aload_n hx hb dX2_found_84 rfl (lv_at hl 1 rfl) ?_
          refine va_get (D := (dC, dI)) (ci := 2) (v := .ref mK) (C := RX2) (T := TX2) (N := 15) hx hb hts hin_2 hown hK hP 0 rfl rfl 2 (by decide) k_2 (fun _ h9 => h9) rfl dX2_found_85 ?_
          refine lv_iload_n hx hb dX2_found_88 rfl (lv_at hl 2 rfl) ?_
          refine lv_iload_n hx hb dX2_found_89 rfl (lv_at hl 0 rfl) ?_
          refine xr_iadd hx hb dX2_found_90 ?_
          refine lv_iconst (v := nI 1) hx hb dX2_found_91 (by decide) ?_
          refine xr_isub hx hb dX2_found_92 (by omega) ?_
          refine xr_iald hx hb hK hP 1 1 rfl rfl (by omega) (by omega) dX2_found_93 ?_
          refine lv_icmp_lt (tgt := 103) hx hb dX2_found_94 (by decide) (fun c_94 => ?_) (fun c_94 => ?_)
          · have hp : nfl (kG K) (a + i) = false := by unfold nfl fl; rw [decide_eq_true (show kG K (a + i) < kG K (a + i - 1) from Int32.lt_iff_toInt_lt.mp c_94)]; rfl
            have h9 : i = fnd (kG K) a n := by rw [cnt_f hp] at h3; exact h3
            refine lv_iload_n hx hb dX2_found_103 rfl (lv_at hl 0 rfl) ?_
            exact hret () _ _ _ _ _ _ _ (congrArg nI h9) hP hK hD hS (Nat.le_of_ble_eq_true rfl) (Nat.le_of_ble_eq_true rfl) (rfl) dX2_found_104
          · have hp : nfl (kG K) (a + i) = true := by unfold nfl fl; rw [decide_eq_false (show ¬ kG K (a + i) < kG K (a + i - 1) from fun q => c_94 (Int32.lt_iff_toInt_lt.mpr q))]; rfl
            rw [cnt_t hp (by omega), show n - (a + i) - 1 = n - (a + i + 1) by omega] at h3
            refine lv_iinc (v := nI (i + 1)) (lv' := [(2, .int (nI (i + 1))), (0, .ref m0), (1, .int (nI a))]) hx hb dX2_found_97 hl (k := 0) rfl (nI_add i 1) (by decide) rfl (fun ls hl => ?_)
            refine lv_goto (tgt := 66) hx hb dX2_found_100 (by decide) ?_
            exact ih_u (i + 1) (by omega) (by omega) (by rw [show a + (i + 1) = a + i + 1 by omega]; omega) (by omega) _ _ _ hP hD hS (lv_sub hl [0, 1, 2] rfl)
    exact L_u (_ + 1) 1 (by omega) (by omega) hst (Nat.lt_succ_self _) _ _ _ hP hD hS (lv_sub hl [0, 1, 2] rfl)
  · refine lv_aload_n hx hb dX2_found_12 rfl (lv_at hl 1 rfl) ?_
    refine va_get (D := (dC, dI)) (ci := 2) (v := .ref mK) (C := RX2) (T := TX2) (N := 15) hx hb hts hin_2 hown hK hP 0 rfl rfl 2 (by decide) k_2 (fun _ h9 => h9) rfl dX2_found_13 ?_
    refine lv_iload_n hx hb dX2_found_16 rfl (lv_at hl 2 rfl) ?_
    refine lv_iconst (v := nI 1) hx hb dX2_found_17 (by decide) ?_
    refine xr_iadd hx hb dX2_found_18 ?_
    refine xr_iald hx hb hK hP 1 1 rfl rfl (by omega) (by omega) dX2_found_19 ?_
    refine lv_aload_n hx hb dX2_found_20 rfl (lv_at hl 1 rfl) ?_
    refine va_get (D := (dC, dI)) (ci := 2) (v := .ref mK) (C := RX2) (T := TX2) (N := 15) hx hb hts hin_2 hown hK hP 0 rfl rfl 2 (by decide) k_2 (fun _ h9 => h9) rfl dX2_found_21 ?_
    refine lv_iload_n hx hb dX2_found_24 rfl (lv_at hl 2 rfl) ?_
    refine xr_iald hx hb hK hP 1 1 rfl rfl (by omega) (by omega) dX2_found_25 ?_
    refine lv_icmp_ge (tgt := 66) hx hb dX2_found_26 (by decide) (fun c_26 => ?_) (fun c_26 => ?_)
    · have hp0 : fl (kG K) (a + 1) = false := decide_eq_false (Int.not_lt.mpr (by have := Int32.le_iff_toInt_le.mp c_26; exact this))
      have hst : 1 + cnt (nfl (kG K)) (a + 1) (n - (a + 1)) = fnd (kG K) a n := by unfold fnd; rw [if_pos (cnt_f hp0)]
      have L_u : ∀ (kq : Nat) (i : Nat), (1 ≤ i) → (a + i ≤ n) → (i + cnt (nfl (kG K)) (a + i) (n - (a + i)) = fnd (kG K) a n) → n - (a + i) < kq → ∀ (H : Heap) (locs : List Loc) (ls : Array Slot), va_P (dC, dI) vwCl [(m0, .inr (2, [.int (nI th), .int (nI cap), .ref mK, .ref mT, .ref mU, .ref mV, .int (nI n), .int (nI hi), .int (nI ru), .ref mL, .int (nI me), .long (lN mp), .ref mS, .int (nI pd), .int (nI ht)])), (mK, .inl (cI, 4096, .inl K))] H → va_D A [(m0, .inr (2, [.int (nI th), .int (nI cap), .ref mK, .ref mT, .ref mU, .ref mV, .int (nI n), .int (nI hi), .int (nI ru), .ref mL, .int (nI me), .long (lN mp), .ref mS, .int (nI pd), .int (nI ht)])), (mK, .inl (cI, 4096, .inl K))] → va_S A s.heap H locs → lv_has ls 3 [(2, .int (nI i)), (0, .ref m0), (1, .int (nI a))] → W p l e rmX2_found s m args below meth c H locs 0 0 Q (F0 m 66 ls []) := by
        intro kq
        induction kq with
        | zero =>
          intro i h1 h2 h3 hm
          exact absurd hm (Nat.not_lt_zero _)
        | succ kq ih_u =>
          intro i h1 h2 h3 hm H locs ls hP hD hS hl
          refine lv_iload_n hx hb dX2_found_66 rfl (lv_at hl 2 rfl) ?_
          refine lv_iload_n hx hb dX2_found_67 rfl (lv_at hl 0 rfl) ?_
          refine xr_iadd hx hb dX2_found_68 ?_
          refine lv_aload_n hx hb dX2_found_69 rfl (lv_at hl 1 rfl) ?_
          refine va_get (D := (dC, dI)) (ci := 2) (v := .int (nI n)) (C := RX2) (T := TX2) (N := 15) hx hb hts hin_2 hown hK hP 0 rfl rfl 6 (by decide) k_1 (fun _ h9 => h9) rfl dX2_found_70 ?_
          refine xr_icmp_ge (tgt := 103) hx hb dX2_found_73 (by decide) (by omega) (by omega) (fun c_73 => ?_) (fun c_73 => ?_)
          · have h9 : i = fnd (kG K) a n := by rw [show n - (a + i) = 0 by omega] at h3; exact h3
            refine lv_iload_n hx hb dX2_found_103 rfl (lv_at hl 0 rfl) ?_
            exact hret () _ _ _ _ _ _ _ (congrArg nI h9) hP hK hD hS (Nat.le_of_ble_eq_true rfl) (Nat.le_of_ble_eq_true rfl) (rfl) dX2_found_104
          · refine lv_aload_n hx hb dX2_found_76 rfl (lv_at hl 1 rfl) ?_
            refine va_get (D := (dC, dI)) (ci := 2) (v := .ref mK) (C := RX2) (T := TX2) (N := 15) hx hb hts hin_2 hown hK hP 0 rfl rfl 2 (by decide) k_2 (fun _ h9 => h9) rfl dX2_found_77 ?_
            refine lv_iload_n hx hb dX2_found_80 rfl (lv_at hl 2 rfl) ?_
            refine lv_iload_n hx hb dX2_found_81 rfl (lv_at hl 0 rfl) ?_
            refine xr_iadd hx hb dX2_found_82 ?_
            refine xr_iald hx hb hK hP 1 1 rfl rfl (by omega) (by omega) dX2_found_83 ?_
            refine lv_aload_n hx hb dX2_found_84 rfl (lv_at hl 1 rfl) ?_
            refine va_get (D := (dC, dI)) (ci := 2) (v := .ref mK) (C := RX2) (T := TX2) (N := 15) hx hb hts hin_2 hown hK hP 0 rfl rfl 2 (by decide) k_2 (fun _ h9 => h9) rfl dX2_found_85 ?_
            refine lv_iload_n hx hb dX2_found_88 rfl (lv_at hl 2 rfl) ?_
            refine lv_iload_n hx hb dX2_found_89 rfl (lv_at hl 0 rfl) ?_
            refine xr_iadd hx hb dX2_found_90 ?_
            refine lv_iconst (v := nI 1) hx hb dX2_found_91 (by decide) ?_
            refine xr_isub hx hb dX2_found_92 (by omega) ?_
            refine xr_iald hx hb hK hP 1 1 rfl rfl (by omega) (by omega) dX2_found_93 ?_
            refine lv_icmp_lt (tgt := 103) hx hb dX2_found_94 (by decide) (fun c_94 => ?_) (fun c_94 => ?_)
            · have hp : nfl (kG K) (a + i) = false := by unfold nfl fl; rw [decide_eq_true (show kG K (a + i) < kG K (a + i - 1) from Int32.lt_iff_toInt_lt.mp c_94)]; rfl
              have h9 : i = fnd (kG K) a n := by rw [cnt_f hp] at h3; exact h3
              refine lv_iload_n hx hb dX2_found_103 rfl (lv_at hl 0 rfl) ?_
              exact hret () _ _ _ _ _ _ _ (congrArg nI h9) hP hK hD hS (Nat.le_of_ble_eq_true rfl) (Nat.le_of_ble_eq_true rfl) (rfl) dX2_found_104
            · have hp : nfl (kG K) (a + i) = true := by unfold nfl fl; rw [decide_eq_false (show ¬ kG K (a + i) < kG K (a + i - 1) from fun q => c_94 (Int32.lt_iff_toInt_lt.mpr q))]; rfl
              rw [cnt_t hp (by omega), show n - (a + i) - 1 = n - (a + i + 1) by omega] at h3
              refine lv_iinc (v := nI (i + 1)) (lv' := [(2, .int (nI (i + 1))), (0, .ref m0), (1, .int (nI a))]) hx hb dX2_found_97 hl (k := 0) rfl (nI_add i 1) (by decide) rfl (fun ls hl => ?_)
              refine lv_goto (tgt := 66) hx hb dX2_found_100 (by decide) ?_
              exact ih_u (i + 1) (by omega) (by omega) (by rw [show a + (i + 1) = a + i + 1 by omega]; omega) (by omega) _ _ _ hP hD hS (lv_sub hl [0, 1, 2] rfl)
      exact L_u (_ + 1) 1 (by omega) (by omega) hst (Nat.lt_succ_self _) _ _ _ hP hD hS (lv_sub hl [0, 1, 2] rfl)
    · have hp0 : fl (kG K) (a + 1) = true := decide_eq_true (Int.not_le.mp (fun q => c_26 (Int32.le_iff_toInt_le.mpr q)))
      have hst : 1 + cnt (fl (kG K)) (a + 1) (n - (a + 1)) = fnd (kG K) a n := by unfold fnd; rw [if_neg (by rw [cnt_t hp0 (by omega)]; omega)]
      have L_f : ∀ (kq : Nat) (i : Nat), (1 ≤ i) → (a + i ≤ n) → (i + cnt (fl (kG K)) (a + i) (n - (a + i)) = fnd (kG K) a n) → n - (a + i) < kq → ∀ (H : Heap) (locs : List Loc) (ls : Array Slot), va_P (dC, dI) vwCl [(m0, .inr (2, [.int (nI th), .int (nI cap), .ref mK, .ref mT, .ref mU, .ref mV, .int (nI n), .int (nI hi), .int (nI ru), .ref mL, .int (nI me), .long (lN mp), .ref mS, .int (nI pd), .int (nI ht)])), (mK, .inl (cI, 4096, .inl K))] H → va_D A [(m0, .inr (2, [.int (nI th), .int (nI cap), .ref mK, .ref mT, .ref mU, .ref mV, .int (nI n), .int (nI hi), .int (nI ru), .ref mL, .int (nI me), .long (lN mp), .ref mS, .int (nI pd), .int (nI ht)])), (mK, .inl (cI, 4096, .inl K))] → va_S A s.heap H locs → lv_has ls 3 [(2, .int (nI i)), (0, .ref m0), (1, .int (nI a))] → W p l e rmX2_found s m args below meth c H locs 0 0 Q (F0 m 29 ls []) := by
        intro kq
        induction kq with
        | zero =>
          intro i h1 h2 h3 hm
          exact absurd hm (Nat.not_lt_zero _)
        | succ kq ih_f =>
          intro i h1 h2 h3 hm H locs ls hP hD hS hl
          refine lv_iload_n hx hb dX2_found_29 rfl (lv_at hl 2 rfl) ?_
          refine lv_iload_n hx hb dX2_found_30 rfl (lv_at hl 0 rfl) ?_
          refine xr_iadd hx hb dX2_found_31 ?_
          refine lv_aload_n hx hb dX2_found_32 rfl (lv_at hl 1 rfl) ?_
          refine va_get (D := (dC, dI)) (ci := 2) (v := .int (nI n)) (C := RX2) (T := TX2) (N := 15) hx hb hts hin_2 hown hK hP 0 rfl rfl 6 (by decide) k_1 (fun _ h9 => h9) rfl dX2_found_33 ?_
          refine xr_icmp_ge (tgt := 103) hx hb dX2_found_36 (by decide) (by omega) (by omega) (fun c_36 => ?_) (fun c_36 => ?_)
          · have h9 : i = fnd (kG K) a n := by rw [show n - (a + i) = 0 by omega] at h3; exact h3
            refine lv_iload_n hx hb dX2_found_103 rfl (lv_at hl 0 rfl) ?_
            exact hret () _ _ _ _ _ _ _ (congrArg nI h9) hP hK hD hS (Nat.le_of_ble_eq_true rfl) (Nat.le_of_ble_eq_true rfl) (rfl) dX2_found_104
          · refine lv_aload_n hx hb dX2_found_39 rfl (lv_at hl 1 rfl) ?_
            refine va_get (D := (dC, dI)) (ci := 2) (v := .ref mK) (C := RX2) (T := TX2) (N := 15) hx hb hts hin_2 hown hK hP 0 rfl rfl 2 (by decide) k_2 (fun _ h9 => h9) rfl dX2_found_40 ?_
            refine lv_iload_n hx hb dX2_found_43 rfl (lv_at hl 2 rfl) ?_
            refine lv_iload_n hx hb dX2_found_44 rfl (lv_at hl 0 rfl) ?_
            refine xr_iadd hx hb dX2_found_45 ?_
            refine xr_iald hx hb hK hP 1 1 rfl rfl (by omega) (by omega) dX2_found_46 ?_
            refine lv_aload_n hx hb dX2_found_47 rfl (lv_at hl 1 rfl) ?_
            refine va_get (D := (dC, dI)) (ci := 2) (v := .ref mK) (C := RX2) (T := TX2) (N := 15) hx hb hts hin_2 hown hK hP 0 rfl rfl 2 (by decide) k_2 (fun _ h9 => h9) rfl dX2_found_48 ?_
            refine lv_iload_n hx hb dX2_found_51 rfl (lv_at hl 2 rfl) ?_
            refine lv_iload_n hx hb dX2_found_52 rfl (lv_at hl 0 rfl) ?_
            refine xr_iadd hx hb dX2_found_53 ?_
            refine lv_iconst (v := nI 1) hx hb dX2_found_54 (by decide) ?_
            refine xr_isub hx hb dX2_found_55 (by omega) ?_
            refine xr_iald hx hb hK hP 1 1 rfl rfl (by omega) (by omega) dX2_found_56 ?_
            refine lv_icmp_ge (tgt := 103) hx hb dX2_found_57 (by decide) (fun c_57 => ?_) (fun c_57 => ?_)
            · have hp : fl (kG K) (a + i) = false := decide_eq_false (Int.not_lt.mpr (Int32.le_iff_toInt_le.mp c_57))
              have h9 : i = fnd (kG K) a n := by rw [cnt_f hp] at h3; exact h3
              refine lv_iload_n hx hb dX2_found_103 rfl (lv_at hl 0 rfl) ?_
              exact hret () _ _ _ _ _ _ _ (congrArg nI h9) hP hK hD hS (Nat.le_of_ble_eq_true rfl) (Nat.le_of_ble_eq_true rfl) (rfl) dX2_found_104
            · have hp : fl (kG K) (a + i) = true := decide_eq_true (Int.not_le.mp (fun q => c_57 (Int32.le_iff_toInt_le.mpr q)))
              rw [cnt_t hp (by omega), show n - (a + i) - 1 = n - (a + i + 1) by omega] at h3
              refine lv_iinc (v := nI (i + 1)) (lv' := [(2, .int (nI (i + 1))), (0, .ref m0), (1, .int (nI a))]) hx hb dX2_found_60 hl (k := 0) rfl (nI_add i 1) (by decide) rfl (fun ls hl => ?_)
              refine lv_goto (tgt := 29) hx hb dX2_found_63 (by decide) ?_
              exact ih_f (i + 1) (by omega) (by omega) (by rw [show a + (i + 1) = a + i + 1 by omega]; omega) (by omega) _ _ _ hP hD hS (lv_sub hl [0, 1, 2] rfl)
      exact L_f (_ + 1) 1 (by omega) (by omega) hst (Nat.lt_succ_self _) _ _ _ hP hD hS (lv_sub hl [0, 1, 2] rfl)

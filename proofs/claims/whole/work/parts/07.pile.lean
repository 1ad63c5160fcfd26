/-- the two kinds of arrays that there are -/
abbrev KT (cJ cI : ClassId) : List (ClassId × FieldType) := [(cJ, .long), (cI, .int)]
def shf (f : Nat → Nat) (a b : Nat) : Nat → Nat := fun j => if a ≤ j ∧ j < b then f (j + 1) else f j
theorem shf_0 (f : Nat → Nat) (a : Nat) : shf f a a = f := by
  funext j
  unfold shf
  rw [if_neg (by omega)]
theorem shf_s (f : Nat → Nat) {a i : Nat} (h : a ≤ i) : uN_up (shf f a i) i (shf f a i (i + 1)) = shf f a (i + 1) := by
  funext j
  by_cases hj : j = i
  · subst hj
    rw [up_s]
    unfold shf
    rw [if_neg (by omega), if_pos (by omega)]
  · rw [up_n hj]
    unfold shf
    by_cases h2 : a ≤ j ∧ j < i
    · rw [if_pos h2, if_pos (by omega)]
    · rw [if_neg h2, if_neg (by omega)]
/-- 'too flat', as the pile is asked -/
def tFl (le : Nat → Nat) (ct : Nat) : Prop := (3 ≤ ct ∧ le (ct - 3) ≤ le (ct - 2) + le (ct - 1)) ∨ (4 ≤ ct ∧ le (ct - 4) ≤ le (ct - 3) + le (ct - 2))
abbrev rmX0_empty : Room := { frames := 0, cells := 0, slots := 0, locals := 0 }
set_option maxRecDepth 100000 in
set_option maxHeartbeats 4000000 in
theorem c_X0_empty (l : Launch) (dC : Nat → ClassId) (dI : Nat → Nat → Nat) (cJ cI : ClassId) (oL oS oN ct ht : Nat)  : CV l yX0_empty wsX0_empty rmX0_empty [.ref oL] (dC, dI) vwCl (KT cJ cI) [(oL, .inr (0, [.ref oS, .ref oN, .int (nI ct), .int (nI ht)]))] (S := Unit) (fun _ => True) (fun _ => KT cJ cI) (fun _ => [(oL, .inr (0, [.ref oS, .ref oN, .int (nI 0), .int (nI 0)]))]) := by
  refine CV.mk (by decide) rfl (Nat.le_of_ble_eq_true rfl) ?_
  intro p e s m args below meth c A Q ls hx hb hml hown hts hin hA hS hP hD hK hN hl hret
  have hl : lv_has ls 1 [(0, .ref oL)] := hl
  have hin_0 : ∀ w ∈ u_ws RX0 TX0 4, w ∈ wsX0_empty := by decide +kernel
  have k_1 := hts (Cond.fieldLink RX0 16 "PairSorter$Pile" "count" "I") (by decide +kernel)
  have k_2 := hts (Cond.fieldLink RX0 20 "PairSorter$Pile" "height" "I") (by decide +kernel)
  refine lv_aload_n hx hb dX0_empty_0 rfl (lv_at hl 0 rfl) ?_
  refine lv_iconst (v := nI 0) hx hb dX0_empty_1 (by decide) ?_
  refine va_put (D := (dC, dI)) (ci := 0) (v := .int (nI 0)) (ty := .int) (C := RX0) (T := TX0) (N := 4) hx hb hts hin_0 tyX0 tyX0_ok nmX0 hown hK hP hD hS 0 rfl rfl 2 (by decide) k_1 (fun _ h9 => h9) rfl (by decide +kernel) rfl rfl (Nat.le_of_ble_eq_true rfl) dX0_empty_2 (fun H locs hP hD hS => ?_)
  have hP : va_P (dC, dI) vwCl [(oL, .inr (0, [.ref oS, .ref oN, .int (nI 0), .int (nI ht)]))] H := hP
  have hD : va_D A [(oL, .inr (0, [.ref oS, .ref oN, .int (nI 0), .int (nI ht)]))] := hD
  refine lv_aload_n hx hb dX0_empty_5 rfl (lv_at hl 0 rfl) ?_
  refine lv_iconst (v := nI 0) hx hb dX0_empty_6 (by decide) ?_
  refine va_put (D := (dC, dI)) (ci := 0) (v := .int (nI 0)) (ty := .int) (C := RX0) (T := TX0) (N := 4) hx hb hts hin_0 tyX0 tyX0_ok nmX0 hown hK hP hD hS 0 rfl rfl 3 (by decide) k_2 (fun _ h9 => h9) rfl (by decide +kernel) rfl rfl (Nat.le_of_ble_eq_true rfl) dX0_empty_7 (fun H locs hP hD hS => ?_)
  have hP : va_P (dC, dI) vwCl [(oL, .inr (0, [.ref oS, .ref oN, .int (nI 0), .int (nI 0)]))] H := hP
  have hD : va_D A [(oL, .inr (0, [.ref oS, .ref oN, .int (nI 0), .int (nI 0)]))] := hD
  exact hret () _ _ _ _ _ _ (trivial) hP hK hD hS (Nat.le_of_ble_eq_true rfl) (Nat.le_of_ble_eq_true rfl) dX0_empty_10
abbrev rmX0_push : Room := { frames := 1, cells := 0, slots := 0, locals := 24 }
set_option maxRecDepth 100000 in
set_option maxHeartbeats 4000000 in
theorem c_X0_push (l : Launch) (dC : Nat → ClassId) (dI : Nat → Nat → Nat) (cJ cI : ClassId) (oL oS oN M ct ht : Nat) (a b : Nat) (st le : Nat → Nat) (hc : ct < M) (hM : M < 2 ^ 30) (hh : ht < 2 ^ 30) : CV l yX0_push wsX0_push rmX0_push [.ref oL, .int (nI a), .int (nI b)] (dC, dI) vwCl (KT cJ cI) [(oL, .inr (0, [.ref oS, .ref oN, .int (nI ct), .int (nI ht)])), (oS, .inl (cI, M, .inl (fun j => nI (st j)))), (oN, .inl (cI, M, .inl (fun j => nI (le j))))] (S := Unit) (fun _ => True) (fun _ => KT cJ cI) (fun _ => [(oL, .inr (0, [.ref oS, .ref oN, .int (nI (ct + 1)), .int (nI (max ht (ct + 1)))])), (oS, .inl (cI, M, .inl (fun j => nI ((uN_up st ct a) j)))), (oN, .inl (cI, M, .inl (fun j => nI ((uN_up le ct b) j))))]) := by
  refine CV.mk (by decide) rfl (Nat.le_of_ble_eq_true rfl) ?_
  intro p e s m args below meth c A Q ls hx hb hml hown hts hin hA hS hP hD hK hN hl hret
  have hl : lv_has ls 3 [(0, .ref oL), (1, .int (nI a)), (2, .int (nI b))] := hl
  have hin_0 : ∀ w ∈ u_ws RX0 TX0 4, w ∈ wsX0_push := by decide +kernel
  have k_1 := hts (Cond.fieldLink RX0 16 "PairSorter$Pile" "count" "I") (by decide +kernel)
  have k_2 := hts (Cond.fieldLink RX0 13 "PairSorter$Pile" "lengths" "[I") (by decide +kernel)
  have k_3 := hts (Cond.fieldLink RX0 7 "PairSorter$Pile" "starts" "[I") (by decide +kernel)
  have k_4 := hts (Cond.fieldLink RX0 20 "PairSorter$Pile" "height" "I") (by decide +kernel)
  have k_5 := hts (Cond.methodLink RX0 23 Lib.Math.max.name) (by decide +kernel)
  have k_6 := hts (Cond.static Lib.Math.max.name) (by decide +kernel)
  have k_7 := hts (Cond.initialized "java/lang/Math") (by decide +kernel)
  have k_8 := hts (Cond.code Lib.Math.max.name Lib.Math.max.code 2 (some .int)) (by decide +kernel)
  refine lv_aload_n hx hb dX0_push_0 rfl (lv_at hl 0 rfl) ?_
  refine va_get (D := (dC, dI)) (ci := 0) (v := .int (nI ct)) (C := RX0) (T := TX0) (N := 4) hx hb hts hin_0 hown hK hP 0 rfl rfl 2 (by decide) k_1 (fun _ h9 => h9) rfl dX0_push_1 ?_
  refine lv_aload_n hx hb dX0_push_4 rfl (lv_at hl 0 rfl) ?_
  refine va_get (D := (dC, dI)) (ci := 0) (v := .ref oN) (C := RX0) (T := TX0) (N := 4) hx hb hts hin_0 hown hK hP 0 rfl rfl 1 (by decide) k_2 (fun _ h9 => h9) rfl dX0_push_5 ?_
  refine va_alen (v := nI M) hx hb hK hP 2 1 rfl rfl rfl dX0_push_8 ?_
  refine xr_icmp_lt (tgt := 13) hx hb dX0_push_9 (by decide) (by omega) (by omega) (fun c_9 => ?_) (fun c_9 => ?_)
  · refine lv_aload_n hx hb dX0_push_13 rfl (lv_at hl 0 rfl) ?_
    refine va_get (D := (dC, dI)) (ci := 0) (v := .ref oS) (C := RX0) (T := TX0) (N := 4) hx hb hts hin_0 hown hK hP 0 rfl rfl 0 (by decide) k_3 (fun _ h9 => h9) rfl dX0_push_14 ?_
    refine lv_aload_n hx hb dX0_push_17 rfl (lv_at hl 0 rfl) ?_
    refine va_get (D := (dC, dI)) (ci := 0) (v := .int (nI ct)) (C := RX0) (T := TX0) (N := 4) hx hb hts hin_0 hown hK hP 0 rfl rfl 2 (by decide) k_1 (fun _ h9 => h9) rfl dX0_push_18 ?_
    refine lv_iload_n hx hb dX0_push_21 rfl (lv_at hl 1 rfl) ?_
    refine xr_iastN hx hb hK hP hD hS 1 1 rfl rfl (by omega) (by omega) dX0_push_22 (fun H locs hP hD hS => ?_)
    have hP : va_P (dC, dI) vwCl [(oL, .inr (0, [.ref oS, .ref oN, .int (nI ct), .int (nI ht)])), (oS, .inl (cI, M, .inl (fun j => nI ((uN_up st ct a) j)))), (oN, .inl (cI, M, .inl (fun j => nI (le j))))] H := hP
    have hD : va_D A [(oL, .inr (0, [.ref oS, .ref oN, .int (nI ct), .int (nI ht)])), (oS, .inl (cI, M, .inl (fun j => nI ((uN_up st ct a) j)))), (oN, .inl (cI, M, .inl (fun j => nI (le j))))] := hD
    refine lv_aload_n hx hb dX0_push_23 rfl (lv_at hl 0 rfl) ?_
    refine va_get (D := (dC, dI)) (ci := 0) (v := .ref oN) (C := RX0) (T := TX0) (N := 4) hx hb hts hin_0 hown hK hP 0 rfl rfl 1 (by decide) k_2 (fun _ h9 => h9) rfl dX0_push_24 ?_
    refine lv_aload_n hx hb dX0_push_27 rfl (lv_at hl 0 rfl) ?_
    refine va_get (D := (dC, dI)) (ci := 0) (v := .int (nI ct)) (C := RX0) (T := TX0) (N := 4) hx hb hts hin_0 hown hK hP 0 rfl rfl 2 (by decide) k_1 (fun _ h9 => h9) rfl dX0_push_28 ?_
    refine lv_iload_n hx hb dX0_push_31 rfl (lv_at hl 2 rfl) ?_
    refine xr_iastN hx hb hK hP hD hS 2 1 rfl rfl (by omega) (by omega) dX0_push_32 (fun H locs hP hD hS => ?_)
    have hP : va_P (dC, dI) vwCl [(oL, .inr (0, [.ref oS, .ref oN, .int (nI ct), .int (nI ht)])), (oS, .inl (cI, M, .inl (fun j => nI ((uN_up st ct a) j)))), (oN, .inl (cI, M, .inl (fun j => nI ((uN_up le ct b) j))))] H := hP
    have hD : va_D A [(oL, .inr (0, [.ref oS, .ref oN, .int (nI ct), .int (nI ht)])), (oS, .inl (cI, M, .inl (fun j => nI ((uN_up st ct a) j)))), (oN, .inl (cI, M, .inl (fun j => nI ((uN_up le ct b) j))))] := hD
    refine lv_aload_n hx hb dX0_push_33 rfl (lv_at hl 0 rfl) ?_
    refine lv_dup hx hb dX0_push_34 rfl ?_
    refine va_get (D := (dC, dI)) (ci := 0) (v := .int (nI ct)) (C := RX0) (T := TX0) (N := 4) hx hb hts hin_0 hown hK hP 0 rfl rfl 2 (by decide) k_1 (fun _ h9 => h9) rfl dX0_push_35 ?_
    refine lv_iconst (v := nI 1) hx hb dX0_push_38 (by decide) ?_
    refine xr_iadd hx hb dX0_push_39 ?_
    refine va_put (D := (dC, dI)) (ci := 0) (v := .int (nI (ct + 1))) (ty := .int) (C := RX0) (T := TX0) (N := 4) hx hb hts hin_0 tyX0 tyX0_ok nmX0 hown hK hP hD hS 0 rfl rfl 2 (by decide) k_1 (fun _ h9 => h9) rfl (by decide +kernel) rfl rfl (Nat.le_of_ble_eq_true rfl) dX0_push_40 (fun H locs hP hD hS => ?_)
    have hP : va_P (dC, dI) vwCl [(oL, .inr (0, [.ref oS, .ref oN, .int (nI (ct + 1)), .int (nI ht)])), (oS, .inl (cI, M, .inl (fun j => nI ((uN_up st ct a) j)))), (oN, .inl (cI, M, .inl (fun j => nI ((uN_up le ct b) j))))] H := hP
    have hD : va_D A [(oL, .inr (0, [.ref oS, .ref oN, .int (nI (ct + 1)), .int (nI ht)])), (oS, .inl (cI, M, .inl (fun j => nI ((uN_up st ct a) j)))), (oN, .inl (cI, M, .inl (fun j => nI ((uN_up le ct b) j))))] := hD
    refine lv_aload_n hx hb dX0_push_43 rfl (lv_at hl 0 rfl) ?_
    refine lv_aload_n hx hb dX0_push_44 rfl (lv_at hl 0 rfl) ?_
    refine va_get (D := (dC, dI)) (ci := 0) (v := .int (nI ht)) (C := RX0) (T := TX0) (N := 4) hx hb hts hin_0 hown hK hP 0 rfl rfl 3 (by decide) k_4 (fun _ h9 => h9) rfl dX0_push_45 ?_
    refine lv_aload_n hx hb dX0_push_48 rfl (lv_at hl 0 rfl) ?_
    refine va_get (D := (dC, dI)) (ci := 0) (v := .int (nI (ct + 1))) (C := RX0) (T := TX0) (N := 4) hx hb hts hin_0 hown hK hP 0 rfl rfl 2 (by decide) k_1 (fun _ h9 => h9) rfl dX0_push_49 ?_
    refine xr_mmax hx hb (hml.trans hl.1.symm) hown k_5 k_6 k_7 k_8 (Nat.le_of_ble_eq_true rfl) (Nat.le_of_ble_eq_true rfl) (Nat.le_of_ble_eq_true rfl) (Nat.le_of_ble_eq_true rfl) (by omega) (by omega) dX0_push_52 ?_
    refine va_put (D := (dC, dI)) (ci := 0) (v := .int (nI (max ht (ct + 1)))) (ty := .int) (C := RX0) (T := TX0) (N := 4) hx hb hts hin_0 tyX0 tyX0_ok nmX0 hown hK hP hD hS 0 rfl rfl 3 (by decide) k_4 (fun _ h9 => h9) rfl (by decide +kernel) rfl rfl (Nat.le_of_ble_eq_true rfl) dX0_push_55 (fun H locs hP hD hS => ?_)
    have hP : va_P (dC, dI) vwCl [(oL, .inr (0, [.ref oS, .ref oN, .int (nI (ct + 1)), .int (nI (max ht (ct + 1)))])), (oS, .inl (cI, M, .inl (fun j => nI ((uN_up st ct a) j)))), (oN, .inl (cI, M, .inl (fun j => nI ((uN_up le ct b) j))))] H := hP
    have hD : va_D A [(oL, .inr (0, [.ref oS, .ref oN, .int (nI (ct + 1)), .int (nI (max ht (ct + 1)))])), (oS, .inl (cI, M, .inl (fun j => nI ((uN_up st ct a) j)))), (oN, .inl (cI, M, .inl (fun j => nI ((uN_up le ct b) j))))] := hD
    exact hret () _ _ _ _ _ _ (trivial) hP hK hD hS (Nat.le_of_ble_eq_true rfl) (Nat.le_of_ble_eq_true rfl) dX0_push_58
  · exact absurd c_9 (by omega)
abbrev rmX0_fromTop : Room := { frames := 0, cells := 0, slots := 0, locals := 0 }
set_option maxRecDepth 100000 in
set_option maxHeartbeats 4000000 in
theorem c_X0_fromTop (l : Launch) (dC : Nat → ClassId) (dI : Nat → Nat → Nat) (cJ cI : ClassId) (oL oS oN M ct ht : Nat) (k : Nat) (le : Nat → Nat) (hk : k < ct) (hc : ct ≤ M) (hM : M < 2 ^ 30) : CI l yX0_fromTop wsX0_fromTop rmX0_fromTop [.ref oL, .int (nI k)] (dC, dI) vwCl (KT cJ cI) [(oL, .inr (0, [.ref oS, .ref oN, .int (nI ct), .int (nI ht)])), (oN, .inl (cI, M, .inl (fun j => nI (le j))))] (S := Unit) (fun r _ => r = nI (le (ct - 1 - k))) (fun _ => KT cJ cI) (fun _ => [(oL, .inr (0, [.ref oS, .ref oN, .int (nI ct), .int (nI ht)])), (oN, .inl (cI, M, .inl (fun j => nI (le j))))]) := by
  refine CI.mk (by decide) rfl (Nat.le_of_ble_eq_true rfl) ?_
  intro p e s m args below meth c A Q ls hx hb hml hown hts hA hS hP hD hK hN hl hret
  have hl : lv_has ls 2 [(0, .ref oL), (1, .int (nI k))] := hl
  have hin_0 : ∀ w ∈ u_ws RX0 TX0 4, w ∈ wsX0_fromTop := by decide +kernel
  have k_1 := hts (Cond.fieldLink RX0 13 "PairSorter$Pile" "lengths" "[I") (by decide +kernel)
  have k_2 := hts (Cond.fieldLink RX0 16 "PairSorter$Pile" "count" "I") (by decide +kernel)
  refine lv_aload_n hx hb dX0_fromTop_0 rfl (lv_at hl 0 rfl) ?_
  refine va_get (D := (dC, dI)) (ci := 0) (v := .ref oN) (C := RX0) (T := TX0) (N := 4) hx hb hts hin_0 hown hK hP 0 rfl rfl 1 (by decide) k_1 (fun _ h9 => h9) rfl dX0_fromTop_1 ?_
  refine lv_aload_n hx hb dX0_fromTop_4 rfl (lv_at hl 0 rfl) ?_
  refine va_get (D := (dC, dI)) (ci := 0) (v := .int (nI ct)) (C := RX0) (T := TX0) (N := 4) hx hb hts hin_0 hown hK hP 0 rfl rfl 2 (by decide) k_2 (fun _ h9 => h9) rfl dX0_fromTop_5 ?_
  refine lv_iconst (v := nI 1) hx hb dX0_fromTop_8 (by decide) ?_
  refine xr_isub hx hb dX0_fromTop_9 (by omega) ?_
  refine lv_iload_n hx hb dX0_fromTop_10 rfl (lv_at hl 1 rfl) ?_
  refine xr_isub hx hb dX0_fromTop_11 (by omega) ?_
  refine xr_iald hx hb hK hP 1 1 rfl rfl (by omega) (by omega) dX0_fromTop_12 ?_
  refine xr_top (y := nI (le (ct - 1 - k))) rfl ?_
  exact hret () _ _ _ _ _ _ _ (rfl) hP hK hD hS (Nat.le_of_ble_eq_true rfl) (Nat.le_of_ble_eq_true rfl) (rfl) dX0_fromTop_13
abbrev rmX0_isTooFlat : Room := { frames := 1, cells := 0, slots := 0, locals := 21 }
set_option maxRecDepth 100000 in
set_option maxHeartbeats 4000000 in
theorem c_X0_isTooFlat (l : Launch) (dC : Nat → ClassId) (dI : Nat → Nat → Nat) (cJ cI : ClassId) (oL oS oN M ct ht : Nat) (le : Nat → Nat) (hc : ct ≤ M) (hM : M < 2 ^ 30) (hle : ∀ j, j < ct → le j ≤ 4096) : CI l yX0_isTooFlat wsX0_isTooFlat rmX0_isTooFlat [.ref oL] (dC, dI) vwCl (KT cJ cI) [(oL, .inr (0, [.ref oS, .ref oN, .int (nI ct), .int (nI ht)])), (oN, .inl (cI, M, .inl (fun j => nI (le j))))] (S := Unit) (fun r _ => (r = nI 1 ∧ tFl le ct) ∨ (r = nI 0 ∧ ¬ tFl le ct)) (fun _ => KT cJ cI) (fun _ => [(oL, .inr (0, [.ref oS, .ref oN, .int (nI ct), .int (nI ht)])), (oN, .inl (cI, M, .inl (fun j => nI (le j))))]) := by
  refine CI.mk (by decide) rfl (Nat.le_of_ble_eq_true rfl) ?_
  intro p e s m args below meth c A Q ls hx hb hml hown hts hA hS hP hD hK hN hl hret
  have hl : lv_has ls 1 [(0, .ref oL)] := hl
  have hin_0 : ∀ w ∈ u_ws RX0 TX0 4, w ∈ wsX0_isTooFlat := by decide +kernel
  have k_1 := hts (Cond.fieldLink RX0 16 "PairSorter$Pile" "count" "I") (by decide +kernel)
  refine lv_aload_n hx hb dX0_isTooFlat_0 rfl (lv_at hl 0 rfl) ?_
  refine va_get (D := (dC, dI)) (ci := 0) (v := .int (nI ct)) (C := RX0) (T := TX0) (N := 4) hx hb hts hin_0 hown hK hP 0 rfl rfl 2 (by decide) k_1 (fun _ h9 => h9) rfl dX0_isTooFlat_1 ?_
  refine lv_iconst (v := nI 3) hx hb dX0_isTooFlat_4 (by decide) ?_
  refine xr_icmp_lt (tgt := 27) hx hb dX0_isTooFlat_5 (by decide) (by omega) (by omega) (fun c_5 => ?_) (fun c_5 => ?_)
  · have hx5 : ¬ (3 ≤ ct ∧ le (ct - 3) ≤ le (ct - 2) + le (ct - 1)) := by omega
    refine lv_aload_n hx hb dX0_isTooFlat_27 rfl (lv_at hl 0 rfl) ?_
    refine va_get (D := (dC, dI)) (ci := 0) (v := .int (nI ct)) (C := RX0) (T := TX0) (N := 4) hx hb hts hin_0 hown hK hP 0 rfl rfl 2 (by decide) k_1 (fun _ h9 => h9) rfl dX0_isTooFlat_28 ?_
    refine lv_iconst (v := nI 4) hx hb dX0_isTooFlat_31 (by decide) ?_
    refine xr_icmp_lt (tgt := 58) hx hb dX0_isTooFlat_32 (by decide) (by omega) (by omega) (fun c_32 => ?_) (fun c_32 => ?_)
    · have hans : ¬ tFl le ct := by unfold tFl; omega
      refine lv_iconst (v := nI 0) hx hb dX0_isTooFlat_58 (by decide) ?_
      exact hret () _ _ _ _ _ _ _ (Or.inr ⟨rfl, hans⟩) hP hK hD hS (Nat.le_of_ble_eq_true rfl) (Nat.le_of_ble_eq_true rfl) (rfl) dX0_isTooFlat_59
    · refine lv_aload_n hx hb dX0_isTooFlat_35 rfl (lv_at hl 0 rfl) ?_
      refine lv_iconst (v := nI 3) hx hb dX0_isTooFlat_36 (by decide) ?_
      refine call_V_I (As := [.int (nI 3)]) (rest := []) (wr := []) ⟨hx, hb, hml, hown, hts⟩ (c_X0_fromTop l dC dI cJ cI oL oS oN M ct ht 3 le (by omega) hc hM) (cwV 1 hts gX0_isTooFlat_X0_fromTop rfl rfl rfl (by decide +kernel) ⟨Nat.le_of_ble_eq_true rfl, Nat.le_of_ble_eq_true rfl⟩) hP hD hK hN hS hA [0, 1] [] [0, 1] rfl rfl rfl (by decide) (by decide) (by decide) 0 0 rfl rfl rfl rfl hl.1 rfl (Nat.le_of_ble_eq_true rfl) dX0_isTooFlat_37 (Nat.le_of_ble_eq_true rfl) (Nat.le_of_ble_eq_true rfl) (fun r_37 u_37 H locs hw_37 hP hD hK1 hS => ?_)
      refine W.widen (k := 0) (n := 0) (Nat.le_of_ble_eq_true rfl) (Nat.le_of_ble_eq_true rfl) ?_
      have hP : va_P (dC, dI) vwCl [(oL, .inr (0, [.ref oS, .ref oN, .int (nI ct), .int (nI ht)])), (oN, .inl (cI, M, .inl (fun j => nI (le j))))] H := ct_Psub hP [0, 1] rfl
      have hD : va_D A [(oL, .inr (0, [.ref oS, .ref oN, .int (nI ct), .int (nI ht)])), (oN, .inl (cI, M, .inl (fun j => nI (le j))))] := hD.sub [0, 1] (by decide) rfl
      refine xr_top (y := nI (le (ct - 4))) (hw_37.trans (by rw [show ct - 1 - 3 = ct - 4 by omega])) ?_
      have b13 := hle (ct - 4) (by omega)
      refine lv_aload_n hx hb dX0_isTooFlat_40 rfl (lv_at hl 0 rfl) ?_
      refine lv_iconst (v := nI 2) hx hb dX0_isTooFlat_41 (by decide) ?_
      refine call_V_I (As := [.int (nI 2)]) (rest := [.int (nI (le (ct - 4)))]) (wr := []) ⟨hx, hb, hml, hown, hts⟩ (c_X0_fromTop l dC dI cJ cI oL oS oN M ct ht 2 le (by omega) hc hM) (cwV 1 hts gX0_isTooFlat_X0_fromTop rfl rfl rfl (by decide +kernel) ⟨Nat.le_of_ble_eq_true rfl, Nat.le_of_ble_eq_true rfl⟩) hP hD hK hN hS hA [0, 1] [] [0, 1] rfl rfl rfl (by decide) (by decide) (by decide) 0 0 rfl rfl rfl rfl hl.1 rfl (Nat.le_of_ble_eq_true rfl) dX0_isTooFlat_42 (Nat.le_of_ble_eq_true rfl) (Nat.le_of_ble_eq_true rfl) (fun r_42 u_42 H locs hw_42 hP hD hK1 hS => ?_)
      refine W.widen (k := 0) (n := 0) (Nat.le_of_ble_eq_true rfl) (Nat.le_of_ble_eq_true rfl) ?_
      have hP : va_P (dC, dI) vwCl [(oL, .inr (0, [.ref oS, .ref oN, .int (nI ct), .int (nI ht)])), (oN, .inl (cI, M, .inl (fun j => nI (le j))))] H := ct_Psub hP [0, 1] rfl
      have hD : va_D A [(oL, .inr (0, [.ref oS, .ref oN, .int (nI ct), .int (nI ht)])), (oN, .inl (cI, M, .inl (fun j => nI (le j))))] := hD.sub [0, 1] (by decide) rfl
      refine xr_top (y := nI (le (ct - 3))) (hw_42.trans (by rw [show ct - 1 - 2 = ct - 3 by omega])) ?_
      have b12 := hle (ct - 3) (by omega)
      refine lv_aload_n hx hb dX0_isTooFlat_45 rfl (lv_at hl 0 rfl) ?_
      refine lv_iconst (v := nI 1) hx hb dX0_isTooFlat_46 (by decide) ?_
      refine call_V_I (As := [.int (nI 1)]) (rest := [.int (nI (le (ct - 3))), .int (nI (le (ct - 4)))]) (wr := []) ⟨hx, hb, hml, hown, hts⟩ (c_X0_fromTop l dC dI cJ cI oL oS oN M ct ht 1 le (by omega) hc hM) (cwV 1 hts gX0_isTooFlat_X0_fromTop rfl rfl rfl (by decide +kernel) ⟨Nat.le_of_ble_eq_true rfl, Nat.le_of_ble_eq_true rfl⟩) hP hD hK hN hS hA [0, 1] [] [0, 1] rfl rfl rfl (by decide) (by decide) (by decide) 0 0 rfl rfl rfl rfl hl.1 rfl (Nat.le_of_ble_eq_true rfl) dX0_isTooFlat_47 (Nat.le_of_ble_eq_true rfl) (Nat.le_of_ble_eq_true rfl) (fun r_47 u_47 H locs hw_47 hP hD hK1 hS => ?_)
      refine W.widen (k := 0) (n := 0) (Nat.le_of_ble_eq_true rfl) (Nat.le_of_ble_eq_true rfl) ?_
      have hP : va_P (dC, dI) vwCl [(oL, .inr (0, [.ref oS, .ref oN, .int (nI ct), .int (nI ht)])), (oN, .inl (cI, M, .inl (fun j => nI (le j))))] H := ct_Psub hP [0, 1] rfl
      have hD : va_D A [(oL, .inr (0, [.ref oS, .ref oN, .int (nI ct), .int (nI ht)])), (oN, .inl (cI, M, .inl (fun j => nI (le j))))] := hD.sub [0, 1] (by decide) rfl
      refine xr_top (y := nI (le (ct - 2))) (hw_47.trans (by rw [show ct - 1 - 1 = ct - 2 by omega])) ?_
      have b11 := hle (ct - 2) (by omega)
      refine xr_iadd hx hb dX0_isTooFlat_50 ?_
      refine xr_icmp_gt (tgt := 58) hx hb dX0_isTooFlat_51 (by decide) (by omega) (by omega) (fun c_51 => ?_) (fun c_51 => ?_)
      · have hans : ¬ tFl le ct := by unfold tFl; omega
        refine lv_iconst (v := nI 0) hx hb dX0_isTooFlat_58 (by decide) ?_
        exact hret () _ _ _ _ _ _ _ (Or.inr ⟨rfl, hans⟩) hP hK hD hS (Nat.le_of_ble_eq_true rfl) (Nat.le_of_ble_eq_true rfl) (rfl) dX0_isTooFlat_59
      · have hans : tFl le ct := Or.inr ⟨c_32, c_51⟩
        refine lv_iconst (v := nI 1) hx hb dX0_isTooFlat_54 (by decide) ?_
        refine lv_goto (tgt := 59) hx hb dX0_isTooFlat_55 (by decide) ?_
        exact hret () _ _ _ _ _ _ _ (Or.inl ⟨rfl, hans⟩) hP hK hD hS (Nat.le_of_ble_eq_true rfl) (Nat.le_of_ble_eq_true rfl) (rfl) dX0_isTooFlat_59
  · refine lv_aload_n hx hb dX0_isTooFlat_8 rfl (lv_at hl 0 rfl) ?_
    refine lv_iconst (v := nI 2) hx hb dX0_isTooFlat_9 (by decide) ?_
    refine call_V_I (As := [.int (nI 2)]) (rest := []) (wr := []) ⟨hx, hb, hml, hown, hts⟩ (c_X0_fromTop l dC dI cJ cI oL oS oN M ct ht 2 le (by omega) hc hM) (cwV 1 hts gX0_isTooFlat_X0_fromTop rfl rfl rfl (by decide +kernel) ⟨Nat.le_of_ble_eq_true rfl, Nat.le_of_ble_eq_true rfl⟩) hP hD hK hN hS hA [0, 1] [] [0, 1] rfl rfl rfl (by decide) (by decide) (by decide) 0 0 rfl rfl rfl rfl hl.1 rfl (Nat.le_of_ble_eq_true rfl) dX0_isTooFlat_10 (Nat.le_of_ble_eq_true rfl) (Nat.le_of_ble_eq_true rfl) (fun r_10 u_10 H locs hw_10 hP hD hK1 hS => ?_)
    refine W.widen (k := 0) (n := 0) (Nat.le_of_ble_eq_true rfl) (Nat.le_of_ble_eq_true rfl) ?_
    have hP : va_P (dC, dI) vwCl [(oL, .inr (0, [.ref oS, .ref oN, .int (nI ct), .int (nI ht)])), (oN, .inl (cI, M, .inl (fun j => nI (le j))))] H := ct_Psub hP [0, 1] rfl
    have hD : va_D A [(oL, .inr (0, [.ref oS, .ref oN, .int (nI ct), .int (nI ht)])), (oN, .inl (cI, M, .inl (fun j => nI (le j))))] := hD.sub [0, 1] (by decide) rfl
    refine xr_top (y := nI (le (ct - 3))) (hw_10.trans (by rw [show ct - 1 - 2 = ct - 3 by omega])) ?_
    have b2 := hle (ct - 3) (by omega)
    refine lv_aload_n hx hb dX0_isTooFlat_13 rfl (lv_at hl 0 rfl) ?_
    refine lv_iconst (v := nI 1) hx hb dX0_isTooFlat_14 (by decide) ?_
    refine call_V_I (As := [.int (nI 1)]) (rest := [.int (nI (le (ct - 3)))]) (wr := []) ⟨hx, hb, hml, hown, hts⟩ (c_X0_fromTop l dC dI cJ cI oL oS oN M ct ht 1 le (by omega) hc hM) (cwV 1 hts gX0_isTooFlat_X0_fromTop rfl rfl rfl (by decide +kernel) ⟨Nat.le_of_ble_eq_true rfl, Nat.le_of_ble_eq_true rfl⟩) hP hD hK hN hS hA [0, 1] [] [0, 1] rfl rfl rfl (by decide) (by decide) (by decide) 0 0 rfl rfl rfl rfl hl.1 rfl (Nat.le_of_ble_eq_true rfl) dX0_isTooFlat_15 (Nat.le_of_ble_eq_true rfl) (Nat.le_of_ble_eq_true rfl) (fun r_15 u_15 H locs hw_15 hP hD hK1 hS => ?_)
    refine W.widen (k := 0) (n := 0) (Nat.le_of_ble_eq_true rfl) (Nat.le_of_ble_eq_true rfl) ?_
    have hP : va_P (dC, dI) vwCl [(oL, .inr (0, [.ref oS, .ref oN, .int (nI ct), .int (nI ht)])), (oN, .inl (cI, M, .inl (fun j => nI (le j))))] H := ct_Psub hP [0, 1] rfl
    have hD : va_D A [(oL, .inr (0, [.ref oS, .ref oN, .int (nI ct), .int (nI ht)])), (oN, .inl (cI, M, .inl (fun j => nI (le j))))] := hD.sub [0, 1] (by decide) rfl
    refine xr_top (y := nI (le (ct - 2))) (hw_15.trans (by rw [show ct - 1 - 1 = ct - 2 by omega])) ?_
    have b1 := hle (ct - 2) (by omega)
    refine lv_aload_n hx hb dX0_isTooFlat_18 rfl (lv_at hl 0 rfl) ?_
    refine lv_iconst (v := nI 0) hx hb dX0_isTooFlat_19 (by decide) ?_
    refine call_V_I (As := [.int (nI 0)]) (rest := [.int (nI (le (ct - 2))), .int (nI (le (ct - 3)))]) (wr := []) ⟨hx, hb, hml, hown, hts⟩ (c_X0_fromTop l dC dI cJ cI oL oS oN M ct ht 0 le (by omega) hc hM) (cwV 1 hts gX0_isTooFlat_X0_fromTop rfl rfl rfl (by decide +kernel) ⟨Nat.le_of_ble_eq_true rfl, Nat.le_of_ble_eq_true rfl⟩) hP hD hK hN hS hA [0, 1] [] [0, 1] rfl rfl rfl (by decide) (by decide) (by decide) 0 0 rfl rfl rfl rfl hl.1 rfl (Nat.le_of_ble_eq_true rfl) dX0_isTooFlat_20 (Nat.le_of_ble_eq_true rfl) (Nat.le_of_ble_eq_true rfl) (fun r_20 u_20 H locs hw_20 hP hD hK1 hS => ?_)
    refine W.widen (k := 0) (n := 0) (Nat.le_of_ble_eq_true rfl) (Nat.le_of_ble_eq_true rfl) ?_
    have hP : va_P (dC, dI) vwCl [(oL, .inr (0, [.ref oS, .ref oN, .int (nI ct), .int (nI ht)])), (oN, .inl (cI, M, .inl (fun j => nI (le j))))] H := ct_Psub hP [0, 1] rfl
    have hD : va_D A [(oL, .inr (0, [.ref oS, .ref oN, .int (nI ct), .int (nI ht)])), (oN, .inl (cI, M, .inl (fun j => nI (le j))))] := hD.sub [0, 1] (by decide) rfl
    refine xr_top (y := nI (le (ct - 1))) (hw_20.trans (by rw [show ct - 1 - 0 = ct - 1 by omega])) ?_
    have b0 := hle (ct - 1) (by omega)
    refine xr_iadd hx hb dX0_isTooFlat_23 ?_
    refine xr_icmp_le (tgt := 54) hx hb dX0_isTooFlat_24 (by decide) (by omega) (by omega) (fun c_24 => ?_) (fun c_24 => ?_)
    · have hans : tFl le ct := Or.inl ⟨c_5, c_24⟩
      refine lv_iconst (v := nI 1) hx hb dX0_isTooFlat_54 (by decide) ?_
      refine lv_goto (tgt := 59) hx hb dX0_isTooFlat_55 (by decide) ?_
      exact hret () _ _ _ _ _ _ _ (Or.inl ⟨rfl, hans⟩) hP hK hD hS (Nat.le_of_ble_eq_true rfl) (Nat.le_of_ble_eq_true rfl) (rfl) dX0_isTooFlat_59
    · have hx5 : ¬ (3 ≤ ct ∧ le (ct - 3) ≤ le (ct - 2) + le (ct - 1)) := by omega
      refine lv_aload_n hx hb dX0_isTooFlat_27 rfl (lv_at hl 0 rfl) ?_
      refine va_get (D := (dC, dI)) (ci := 0) (v := .int (nI ct)) (C := RX0) (T := TX0) (N := 4) hx hb hts hin_0 hown hK hP 0 rfl rfl 2 (by decide) k_1 (fun _ h9 => h9) rfl dX0_isTooFlat_28 ?_
      refine lv_iconst (v := nI 4) hx hb dX0_isTooFlat_31 (by decide) ?_
      refine xr_icmp_lt (tgt := 58) hx hb dX0_isTooFlat_32 (by decide) (by omega) (by omega) (fun c_32 => ?_) (fun c_32 => ?_)
      · have hans : ¬ tFl le ct := by unfold tFl; omega
        refine lv_iconst (v := nI 0) hx hb dX0_isTooFlat_58 (by decide) ?_
        exact hret () _ _ _ _ _ _ _ (Or.inr ⟨rfl, hans⟩) hP hK hD hS (Nat.le_of_ble_eq_true rfl) (Nat.le_of_ble_eq_true rfl) (rfl) dX0_isTooFlat_59
      · refine lv_aload_n hx hb dX0_isTooFlat_35 rfl (lv_at hl 0 rfl) ?_
        refine lv_iconst (v := nI 3) hx hb dX0_isTooFlat_36 (by decide) ?_
        refine call_V_I (As := [.int (nI 3)]) (rest := []) (wr := []) ⟨hx, hb, hml, hown, hts⟩ (c_X0_fromTop l dC dI cJ cI oL oS oN M ct ht 3 le (by omega) hc hM) (cwV 1 hts gX0_isTooFlat_X0_fromTop rfl rfl rfl (by decide +kernel) ⟨Nat.le_of_ble_eq_true rfl, Nat.le_of_ble_eq_true rfl⟩) hP hD hK hN hS hA [0, 1] [] [0, 1] rfl rfl rfl (by decide) (by decide) (by decide) 0 0 rfl rfl rfl rfl hl.1 rfl (Nat.le_of_ble_eq_true rfl) dX0_isTooFlat_37 (Nat.le_of_ble_eq_true rfl) (Nat.le_of_ble_eq_true rfl) (fun r_37 u_37 H locs hw_37 hP hD hK1 hS => ?_)
        refine W.widen (k := 0) (n := 0) (Nat.le_of_ble_eq_true rfl) (Nat.le_of_ble_eq_true rfl) ?_
        have hP : va_P (dC, dI) vwCl [(oL, .inr (0, [.ref oS, .ref oN, .int (nI ct), .int (nI ht)])), (oN, .inl (cI, M, .inl (fun j => nI (le j))))] H := ct_Psub hP [0, 1] rfl
        have hD : va_D A [(oL, .inr (0, [.ref oS, .ref oN, .int (nI ct), .int (nI ht)])), (oN, .inl (cI, M, .inl (fun j => nI (le j))))] := hD.sub [0, 1] (by decide) rfl
        refine xr_top (y := nI (le (ct - 4))) (hw_37.trans (by rw [show ct - 1 - 3 = ct - 4 by omega])) ?_
        have b13 := hle (ct - 4) (by omega)
        refine lv_aload_n hx hb dX0_isTooFlat_40 rfl (lv_at hl 0 rfl) ?_
        refine lv_iconst (v := nI 2) hx hb dX0_isTooFlat_41 (by decide) ?_
        refine call_V_I (As := [.int (nI 2)]) (rest := [.int (nI (le (ct - 4)))]) (wr := []) ⟨hx, hb, hml, hown, hts⟩ (c_X0_fromTop l dC dI cJ cI oL oS oN M ct ht 2 le (by omega) hc hM) (cwV 1 hts gX0_isTooFlat_X0_fromTop rfl rfl rfl (by decide +kernel) ⟨Nat.le_of_ble_eq_true rfl, Nat.le_of_ble_eq_true rfl⟩) hP hD hK hN hS hA [0, 1] [] [0, 1] rfl rfl rfl (by decide) (by decide) (by decide) 0 0 rfl rfl rfl rfl hl.1 rfl (Nat.le_of_ble_eq_true rfl) dX0_isTooFlat_42 (Nat.le_of_ble_eq_true rfl) (Nat.le_of_ble_eq_true rfl) (fun r_42 u_42 H locs hw_42 hP hD hK1 hS => ?_)
        refine W.widen (k := 0) (n := 0) (Nat.le_of_ble_eq_true rfl) (Nat.le_of_ble_eq_true rfl) ?_
        have hP : va_P (dC, dI) vwCl [(oL, .inr (0, [.ref oS, .ref oN, .int (nI ct), .int (nI ht)])), (oN, .inl (cI, M, .inl (fun j => nI (le j))))] H := ct_Psub hP [0, 1] rfl
        have hD : va_D A [(oL, .inr (0, [.ref oS, .ref oN, .int (nI ct), .int (nI ht)])), (oN, .inl (cI, M, .inl (fun j => nI (le j))))] := hD.sub [0, 1] (by decide) rfl
        refine xr_top (y := nI (le (ct - 3))) (hw_42.trans (by rw [show ct - 1 - 2 = ct - 3 by omega])) ?_
        have b12 := hle (ct - 3) (by omega)
        refine lv_aload_n hx hb dX0_isTooFlat_45 rfl (lv_at hl 0 rfl) ?_
        refine lv_iconst (v := nI 1) hx hb dX0_isTooFlat_46 (by decide) ?_
        refine call_V_I (As := [.int (nI 1)]) (rest := [.int (nI (le (ct - 3))), .int (nI (le (ct - 4)))]) (wr := []) ⟨hx, hb, hml, hown, hts⟩ (c_X0_fromTop l dC dI cJ cI oL oS oN M ct ht 1 le (by omega) hc hM) (cwV 1 hts gX0_isTooFlat_X0_fromTop rfl rfl rfl (by decide +kernel) ⟨Nat.le_of_ble_eq_true rfl, Nat.le_of_ble_eq_true rfl⟩) hP hD hK hN hS hA [0, 1] [] [0, 1] rfl rfl rfl (by decide) (by decide) (by decide) 0 0 rfl rfl rfl rfl hl.1 rfl (Nat.le_of_ble_eq_true rfl) dX0_isTooFlat_47 (Nat.le_of_ble_eq_true rfl) (Nat.le_of_ble_eq_true rfl) (fun r_47 u_47 H locs hw_47 hP hD hK1 hS => ?_)
        refine W.widen (k := 0) (n := 0) (Nat.le_of_ble_eq_true rfl) (Nat.le_of_ble_eq_true rfl) ?_
        have hP : va_P (dC, dI) vwCl [(oL, .inr (0, [.ref oS, .ref oN, .int (nI ct), .int (nI ht)])), (oN, .inl (cI, M, .inl (fun j => nI (le j))))] H := ct_Psub hP [0, 1] rfl
        have hD : va_D A [(oL, .inr (0, [.ref oS, .ref oN, .int (nI ct), .int (nI ht)])), (oN, .inl (cI, M, .inl (fun j => nI (le j))))] := hD.sub [0, 1] (by decide) rfl
        refine xr_top (y := nI (le (ct - 2))) (hw_47.trans (by rw [show ct - 1 - 1 = ct - 2 by omega])) ?_
        have b11 := hle (ct - 2) (by omega)
        refine xr_iadd hx hb dX0_isTooFlat_50 ?_
        refine xr_icmp_gt (tgt := 58) hx hb dX0_isTooFlat_51 (by decide) (by omega) (by omega) (fun c_51 => ?_) (fun c_51 => ?_)
        · have hans : ¬ tFl le ct := by unfold tFl; omega
          refine lv_iconst (v := nI 0) hx hb dX0_isTooFlat_58 (by decide) ?_
          exact hret () _ _ _ _ _ _ _ (Or.inr ⟨rfl, hans⟩) hP hK hD hS (Nat.le_of_ble_eq_true rfl) (Nat.le_of_ble_eq_true rfl) (rfl) dX0_isTooFlat_59
        · have hans : tFl le ct := Or.inr ⟨c_32, c_51⟩
          refine lv_iconst (v := nI 1) hx hb dX0_isTooFlat_54 (by decide) ?_
          refine lv_goto (tgt := 59) hx hb dX0_isTooFlat_55 (by decide) ?_
          exact hret () _ _ _ _ _ _ _ (Or.inl ⟨rfl, hans⟩) hP hK hD hS (Nat.le_of_ble_eq_true rfl) (Nat.le_of_ble_eq_true rfl) (rfl) dX0_isTooFlat_59
abbrev rmX0_isTopTooLong : Room := { frames := 1, cells := 0, slots := 0, locals := 21 }
set_option maxRecDepth 100000 in
set_option maxHeartbeats 4000000 in
theorem c_X0_isTopTooLong (l : Launch) (dC : Nat → ClassId) (dI : Nat → Nat → Nat) (cJ cI : ClassId) (oL oS oN M ct ht : Nat) (le : Nat → Nat) (hc : ct ≤ M) (hM : M < 2 ^ 30) (hle : ∀ j, j < ct → le j ≤ 4096) : CI l yX0_isTopTooLong wsX0_isTopTooLong rmX0_isTopTooLong [.ref oL] (dC, dI) vwCl (KT cJ cI) [(oL, .inr (0, [.ref oS, .ref oN, .int (nI ct), .int (nI ht)])), (oN, .inl (cI, M, .inl (fun j => nI (le j))))] (S := Unit) (fun r _ => (r = nI 1 ∧ 2 ≤ ct ∧ le (ct - 2) ≤ le (ct - 1)) ∨ (r = nI 0 ∧ ¬ (2 ≤ ct ∧ le (ct - 2) ≤ le (ct - 1)))) (fun _ => KT cJ cI) (fun _ => [(oL, .inr (0, [.ref oS, .ref oN, .int (nI ct), .int (nI ht)])), (oN, .inl (cI, M, .inl (fun j => nI (le j))))]) := by
  refine CI.mk (by decide) rfl (Nat.le_of_ble_eq_true rfl) ?_
  intro p e s m args below meth c A Q ls hx hb hml hown hts hA hS hP hD hK hN hl hret
  have hl : lv_has ls 1 [(0, .ref oL)] := hl
  have hin_0 : ∀ w ∈ u_ws RX0 TX0 4, w ∈ wsX0_isTopTooLong := by decide +kernel
  have k_1 := hts (Cond.fieldLink RX0 16 "PairSorter$Pile" "count" "I") (by decide +kernel)
  refine lv_aload_n hx hb dX0_isTopTooLong_0 rfl (lv_at hl 0 rfl) ?_
  refine va_get (D := (dC, dI)) (ci := 0) (v := .int (nI ct)) (C := RX0) (T := TX0) (N := 4) hx hb hts hin_0 hown hK hP 0 rfl rfl 2 (by decide) k_1 (fun _ h9 => h9) rfl dX0_isTopTooLong_1 ?_
  refine lv_iconst (v := nI 2) hx hb dX0_isTopTooLong_4 (by decide) ?_
  refine xr_icmp_lt (tgt := 25) hx hb dX0_isTopTooLong_5 (by decide) (by omega) (by omega) (fun c_5 => ?_) (fun c_5 => ?_)
  · refine lv_iconst (v := nI 0) hx hb dX0_isTopTooLong_25 (by decide) ?_
    exact hret () _ _ _ _ _ _ _ (Or.inr ⟨rfl, by omega⟩) hP hK hD hS (Nat.le_of_ble_eq_true rfl) (Nat.le_of_ble_eq_true rfl) (rfl) dX0_isTopTooLong_26
  · refine lv_aload_n hx hb dX0_isTopTooLong_8 rfl (lv_at hl 0 rfl) ?_
    refine lv_iconst (v := nI 1) hx hb dX0_isTopTooLong_9 (by decide) ?_
    refine call_V_I (As := [.int (nI 1)]) (rest := []) (wr := []) ⟨hx, hb, hml, hown, hts⟩ (c_X0_fromTop l dC dI cJ cI oL oS oN M ct ht 1 le (by omega) hc hM) (cwV 1 hts gX0_isTopTooLong_X0_fromTop rfl rfl rfl (by decide +kernel) ⟨Nat.le_of_ble_eq_true rfl, Nat.le_of_ble_eq_true rfl⟩) hP hD hK hN hS hA [0, 1] [] [0, 1] rfl rfl rfl (by decide) (by decide) (by decide) 0 0 rfl rfl rfl rfl hl.1 rfl (Nat.le_of_ble_eq_true rfl) dX0_isTopTooLong_10 (Nat.le_of_ble_eq_true rfl) (Nat.le_of_ble_eq_true rfl) (fun r_10 u_10 H locs hw_10 hP hD hK1 hS => ?_)
    refine W.widen (k := 0) (n := 0) (Nat.le_of_ble_eq_true rfl) (Nat.le_of_ble_eq_true rfl) ?_
    have hP : va_P (dC, dI) vwCl [(oL, .inr (0, [.ref oS, .ref oN, .int (nI ct), .int (nI ht)])), (oN, .inl (cI, M, .inl (fun j => nI (le j))))] H := ct_Psub hP [0, 1] rfl
    have hD : va_D A [(oL, .inr (0, [.ref oS, .ref oN, .int (nI ct), .int (nI ht)])), (oN, .inl (cI, M, .inl (fun j => nI (le j))))] := hD.sub [0, 1] (by decide) rfl
    refine xr_top (y := nI (le (ct - 2))) (hw_10.trans (by rw [show ct - 1 - 1 = ct - 2 by omega])) ?_
    have b1 := hle (ct - 2) (by omega)
    refine lv_aload_n hx hb dX0_isTopTooLong_13 rfl (lv_at hl 0 rfl) ?_
    refine lv_iconst (v := nI 0) hx hb dX0_isTopTooLong_14 (by decide) ?_
    refine call_V_I (As := [.int (nI 0)]) (rest := [.int (nI (le (ct - 2)))]) (wr := []) ⟨hx, hb, hml, hown, hts⟩ (c_X0_fromTop l dC dI cJ cI oL oS oN M ct ht 0 le (by omega) hc hM) (cwV 1 hts gX0_isTopTooLong_X0_fromTop rfl rfl rfl (by decide +kernel) ⟨Nat.le_of_ble_eq_true rfl, Nat.le_of_ble_eq_true rfl⟩) hP hD hK hN hS hA [0, 1] [] [0, 1] rfl rfl rfl (by decide) (by decide) (by decide) 0 0 rfl rfl rfl rfl hl.1 rfl (Nat.le_of_ble_eq_true rfl) dX0_isTopTooLong_15 (Nat.le_of_ble_eq_true rfl) (Nat.le_of_ble_eq_true rfl) (fun r_15 u_15 H locs hw_15 hP hD hK1 hS => ?_)
    refine W.widen (k := 0) (n := 0) (Nat.le_of_ble_eq_true rfl) (Nat.le_of_ble_eq_true rfl) ?_
    have hP : va_P (dC, dI) vwCl [(oL, .inr (0, [.ref oS, .ref oN, .int (nI ct), .int (nI ht)])), (oN, .inl (cI, M, .inl (fun j => nI (le j))))] H := ct_Psub hP [0, 1] rfl
    have hD : va_D A [(oL, .inr (0, [.ref oS, .ref oN, .int (nI ct), .int (nI ht)])), (oN, .inl (cI, M, .inl (fun j => nI (le j))))] := hD.sub [0, 1] (by decide) rfl
    refine xr_top (y := nI (le (ct - 1))) (hw_15.trans (by rw [show ct - 1 - 0 = ct - 1 by omega])) ?_
    have b0 := hle (ct - 1) (by omega)
    refine xr_icmp_gt (tgt := 25) hx hb dX0_isTopTooLong_18 (by decide) (by omega) (by omega) (fun c_18 => ?_) (fun c_18 => ?_)
    · refine lv_iconst (v := nI 0) hx hb dX0_isTopTooLong_25 (by decide) ?_
      exact hret () _ _ _ _ _ _ _ (Or.inr ⟨rfl, by omega⟩) hP hK hD hS (Nat.le_of_ble_eq_true rfl) (Nat.le_of_ble_eq_true rfl) (rfl) dX0_isTopTooLong_26
    · refine lv_iconst (v := nI 1) hx hb dX0_isTopTooLong_21 (by decide) ?_
      refine lv_goto (tgt := 26) hx hb dX0_isTopTooLong_22 (by decide) ?_
      exact hret () _ _ _ _ _ _ _ (Or.inl ⟨rfl, by omega⟩) hP hK hD hS (Nat.le_of_ble_eq_true rfl) (Nat.le_of_ble_eq_true rfl) (rfl) dX0_isTopTooLong_26
abbrev rmX0_placeBelowShorterNeighbour : Room := { frames := 1, cells := 0, slots := 0, locals := 21 }
set_option maxRecDepth 100000 in
set_option maxHeartbeats 4000000 in
theorem c_X0_placeBelowShorterNeighbour (l : Launch) (dC : Nat → ClassId) (dI : Nat → Nat → Nat) (cJ cI : ClassId) (oL oS oN M ct ht : Nat) (le : Nat → Nat) (h2 : 2 ≤ ct) (hc : ct ≤ M) (hM : M < 2 ^ 30) (hle : ∀ j, j < ct → le j ≤ 4096) : CI l yX0_placeBelowShorterNeighbour wsX0_placeBelowShorterNeighbour rmX0_placeBelowShorterNeighbour [.ref oL] (dC, dI) vwCl (KT cJ cI) [(oL, .inr (0, [.ref oS, .ref oN, .int (nI ct), .int (nI ht)])), (oN, .inl (cI, M, .inl (fun j => nI (le j))))] (S := Unit) (fun r _ => (r = nI (ct - 3) ∧ 3 ≤ ct ∧ le (ct - 3) < le (ct - 1)) ∨ (r = nI (ct - 2) ∧ ¬ (3 ≤ ct ∧ le (ct - 3) < le (ct - 1)))) (fun _ => KT cJ cI) (fun _ => [(oL, .inr (0, [.ref oS, .ref oN, .int (nI ct), .int (nI ht)])), (oN, .inl (cI, M, .inl (fun j => nI (le j))))]) := by
  refine CI.mk (by decide) rfl (Nat.le_of_ble_eq_true rfl) ?_
  intro p e s m args below meth c A Q ls hx hb hml hown hts hA hS hP hD hK hN hl hret
  have hl : lv_has ls 1 [(0, .ref oL)] := hl
  have hin_0 : ∀ w ∈ u_ws RX0 TX0 4, w ∈ wsX0_placeBelowShorterNeighbour := by decide +kernel
  have k_1 := hts (Cond.fieldLink RX0 16 "PairSorter$Pile" "count" "I") (by decide +kernel)
  refine lv_aload_n hx hb dX0_placeBelowShorterNeighbour_0 rfl (lv_at hl 0 rfl) ?_
  refine va_get (D := (dC, dI)) (ci := 0) (v := .int (nI ct)) (C := RX0) (T := TX0) (N := 4) hx hb hts hin_0 hown hK hP 0 rfl rfl 2 (by decide) k_1 (fun _ h9 => h9) rfl dX0_placeBelowShorterNeighbour_1 ?_
  refine lv_iconst (v := nI 3) hx hb dX0_placeBelowShorterNeighbour_4 (by decide) ?_
  refine xr_icmp_lt (tgt := 30) hx hb dX0_placeBelowShorterNeighbour_5 (by decide) (by omega) (by omega) (fun c_5 => ?_) (fun c_5 => ?_)
  · refine lv_aload_n hx hb dX0_placeBelowShorterNeighbour_30 rfl (lv_at hl 0 rfl) ?_
    refine va_get (D := (dC, dI)) (ci := 0) (v := .int (nI ct)) (C := RX0) (T := TX0) (N := 4) hx hb hts hin_0 hown hK hP 0 rfl rfl 2 (by decide) k_1 (fun _ h9 => h9) rfl dX0_placeBelowShorterNeighbour_31 ?_
    refine lv_iconst (v := nI 2) hx hb dX0_placeBelowShorterNeighbour_34 (by decide) ?_
    refine xr_isub hx hb dX0_placeBelowShorterNeighbour_35 (by omega) ?_
    exact hret () _ _ _ _ _ _ _ (Or.inr ⟨rfl, by omega⟩) hP hK hD hS (Nat.le_of_ble_eq_true rfl) (Nat.le_of_ble_eq_true rfl) (rfl) dX0_placeBelowShorterNeighbour_36
  · refine lv_aload_n hx hb dX0_placeBelowShorterNeighbour_8 rfl (lv_at hl 0 rfl) ?_
    refine lv_iconst (v := nI 2) hx hb dX0_placeBelowShorterNeighbour_9 (by decide) ?_
    refine call_V_I (As := [.int (nI 2)]) (rest := []) (wr := []) ⟨hx, hb, hml, hown, hts⟩ (c_X0_fromTop l dC dI cJ cI oL oS oN M ct ht 2 le (by omega) hc hM) (cwV 1 hts gX0_placeBelowShorterNeighbour_X0_fromTop rfl rfl rfl (by decide +kernel) ⟨Nat.le_of_ble_eq_true rfl, Nat.le_of_ble_eq_true rfl⟩) hP hD hK hN hS hA [0, 1] [] [0, 1] rfl rfl rfl (by decide) (by decide) (by decide) 0 0 rfl rfl rfl rfl hl.1 rfl (Nat.le_of_ble_eq_true rfl) dX0_placeBelowShorterNeighbour_10 (Nat.le_of_ble_eq_true rfl) (Nat.le_of_ble_eq_true rfl) (fun r_10 u_10 H locs hw_10 hP hD hK1 hS => ?_)
    refine W.widen (k := 0) (n := 0) (Nat.le_of_ble_eq_true rfl) (Nat.le_of_ble_eq_true rfl) ?_
    have hP : va_P (dC, dI) vwCl [(oL, .inr (0, [.ref oS, .ref oN, .int (nI ct), .int (nI ht)])), (oN, .inl (cI, M, .inl (fun j => nI (le j))))] H := ct_Psub hP [0, 1] rfl
    have hD : va_D A [(oL, .inr (0, [.ref oS, .ref oN, .int (nI ct), .int (nI ht)])), (oN, .inl (cI, M, .inl (fun j => nI (le j))))] := hD.sub [0, 1] (by decide) rfl
    refine xr_top (y := nI (le (ct - 3))) (hw_10.trans (by rw [show ct - 1 - 2 = ct - 3 by omega])) ?_
    have b1 := hle (ct - 3) (by omega)
    refine lv_aload_n hx hb dX0_placeBelowShorterNeighbour_13 rfl (lv_at hl 0 rfl) ?_
    refine lv_iconst (v := nI 0) hx hb dX0_placeBelowShorterNeighbour_14 (by decide) ?_
    refine call_V_I (As := [.int (nI 0)]) (rest := [.int (nI (le (ct - 3)))]) (wr := []) ⟨hx, hb, hml, hown, hts⟩ (c_X0_fromTop l dC dI cJ cI oL oS oN M ct ht 0 le (by omega) hc hM) (cwV 1 hts gX0_placeBelowShorterNeighbour_X0_fromTop rfl rfl rfl (by decide +kernel) ⟨Nat.le_of_ble_eq_true rfl, Nat.le_of_ble_eq_true rfl⟩) hP hD hK hN hS hA [0, 1] [] [0, 1] rfl rfl rfl (by decide) (by decide) (by decide) 0 0 rfl rfl rfl rfl hl.1 rfl (Nat.le_of_ble_eq_true rfl) dX0_placeBelowShorterNeighbour_15 (Nat.le_of_ble_eq_true rfl) (Nat.le_of_ble_eq_true rfl) (fun r_15 u_15 H locs hw_15 hP hD hK1 hS => ?_)
    refine W.widen (k := 0) (n := 0) (Nat.le_of_ble_eq_true rfl) (Nat.le_of_ble_eq_true rfl) ?_
    have hP : va_P (dC, dI) vwCl [(oL, .inr (0, [.ref oS, .ref oN, .int (nI ct), .int (nI ht)])), (oN, .inl (cI, M, .inl (fun j => nI (le j))))] H := ct_Psub hP [0, 1] rfl
    have hD : va_D A [(oL, .inr (0, [.ref oS, .ref oN, .int (nI ct), .int (nI ht)])), (oN, .inl (cI, M, .inl (fun j => nI (le j))))] := hD.sub [0, 1] (by decide) rfl
    refine xr_top (y := nI (le (ct - 1))) (hw_15.trans (by rw [show ct - 1 - 0 = ct - 1 by omega])) ?_
    have b0 := hle (ct - 1) (by omega)
    refine xr_icmp_ge (tgt := 30) hx hb dX0_placeBelowShorterNeighbour_18 (by decide) (by omega) (by omega) (fun c_18 => ?_) (fun c_18 => ?_)
    · refine lv_aload_n hx hb dX0_placeBelowShorterNeighbour_30 rfl (lv_at hl 0 rfl) ?_
      refine va_get (D := (dC, dI)) (ci := 0) (v := .int (nI ct)) (C := RX0) (T := TX0) (N := 4) hx hb hts hin_0 hown hK hP 0 rfl rfl 2 (by decide) k_1 (fun _ h9 => h9) rfl dX0_placeBelowShorterNeighbour_31 ?_
      refine lv_iconst (v := nI 2) hx hb dX0_placeBelowShorterNeighbour_34 (by decide) ?_
      refine xr_isub hx hb dX0_placeBelowShorterNeighbour_35 (by omega) ?_
      exact hret () _ _ _ _ _ _ _ (Or.inr ⟨rfl, by omega⟩) hP hK hD hS (Nat.le_of_ble_eq_true rfl) (Nat.le_of_ble_eq_true rfl) (rfl) dX0_placeBelowShorterNeighbour_36
    · refine lv_aload_n hx hb dX0_placeBelowShorterNeighbour_21 rfl (lv_at hl 0 rfl) ?_
      refine va_get (D := (dC, dI)) (ci := 0) (v := .int (nI ct)) (C := RX0) (T := TX0) (N := 4) hx hb hts hin_0 hown hK hP 0 rfl rfl 2 (by decide) k_1 (fun _ h9 => h9) rfl dX0_placeBelowShorterNeighbour_22 ?_
      refine lv_iconst (v := nI 3) hx hb dX0_placeBelowShorterNeighbour_25 (by decide) ?_
      refine xr_isub hx hb dX0_placeBelowShorterNeighbour_26 (by omega) ?_
      refine lv_goto (tgt := 36) hx hb dX0_placeBelowShorterNeighbour_27 (by decide) ?_
      exact hret () _ _ _ _ _ _ _ (Or.inl ⟨rfl, by omega⟩) hP hK hD hS (Nat.le_of_ble_eq_true rfl) (Nat.le_of_ble_eq_true rfl) (rfl) dX0_placeBelowShorterNeighbour_36
abbrev rmX0_join : Room := { frames := 0, cells := 0, slots := 0, locals := 0 }
set_option maxRecDepth 100000 in
set_option maxHeartbeats 4000000 in
theorem c_X0_join (l : Launch) (dC : Nat → ClassId) (dI : Nat → Nat → Nat) (cJ cI : ClassId) (oL oS oN M ct ht : Nat) (pl : Nat) (st le : Nat → Nat) (hp : pl + 1 < ct) (hc : ct ≤ M) (hM : M < 2 ^ 30) : CV l yX0_join wsX0_join rmX0_join [.ref oL, .int (nI pl)] (dC, dI) vwCl (KT cJ cI) [(oL, .inr (0, [.ref oS, .ref oN, .int (nI ct), .int (nI ht)])), (oS, .inl (cI, M, .inl (fun j => nI (st j)))), (oN, .inl (cI, M, .inl (fun j => nI (le j))))] (S := Unit) (fun _ => True) (fun _ => KT cJ cI) (fun _ => [(oL, .inr (0, [.ref oS, .ref oN, .int (nI (ct - 1)), .int (nI ht)])), (oS, .inl (cI, M, .inl (fun j => nI ((shf st (pl + 1) (ct - 1)) j)))), (oN, .inl (cI, M, .inl (fun j => nI ((shf (uN_up le pl (le pl + le (pl + 1))) (pl + 1) (ct - 1)) j))))]) := by
  refine CV.mk (by decide) rfl (Nat.le_of_ble_eq_true rfl) ?_
  intro p e s m args below meth c A Q ls hx hb hml hown hts hin hA hS hP hD hK hN hl hret
  have hl : lv_has ls 3 [(0, .ref oL), (1, .int (nI pl))] := hl
  have hin_0 : ∀ w ∈ u_ws RX0 TX0 4, w ∈ wsX0_join := by decide +kernel
  have k_1 := hts (Cond.fieldLink RX0 13 "PairSorter$Pile" "lengths" "[I") (by decide +kernel)
  have k_2 := hts (Cond.fieldLink RX0 16 "PairSorter$Pile" "count" "I") (by decide +kernel)
  have k_3 := hts (Cond.fieldLink RX0 7 "PairSorter$Pile" "starts" "[I") (by decide +kernel)
  refine lv_aload_n hx hb dX0_join_0 rfl (lv_at hl 0 rfl) ?_
  refine va_get (D := (dC, dI)) (ci := 0) (v := .ref oN) (C := RX0) (T := TX0) (N := 4) hx hb hts hin_0 hown hK hP 0 rfl rfl 1 (by decide) k_1 (fun _ h9 => h9) rfl dX0_join_1 ?_
  refine lv_iload_n hx hb dX0_join_4 rfl (lv_at hl 1 rfl) ?_
  refine lv_dup2_11 hx hb dX0_join_5 rfl rfl ?_
  refine xr_iald hx hb hK hP 2 1 rfl rfl (by omega) (by omega) dX0_join_6 ?_
  refine xr_top (y := nI (le pl)) rfl ?_
  refine lv_aload_n hx hb dX0_join_7 rfl (lv_at hl 0 rfl) ?_
  refine va_get (D := (dC, dI)) (ci := 0) (v := .ref oN) (C := RX0) (T := TX0) (N := 4) hx hb hts hin_0 hown hK hP 0 rfl rfl 1 (by decide) k_1 (fun _ h9 => h9) rfl dX0_join_8 ?_
  refine lv_iload_n hx hb dX0_join_11 rfl (lv_at hl 1 rfl) ?_
  refine lv_iconst (v := nI 1) hx hb dX0_join_12 (by decide) ?_
  refine xr_iadd hx hb dX0_join_13 ?_
  refine xr_iald hx hb hK hP 2 1 rfl rfl (by omega) (by omega) dX0_join_14 ?_
  refine xr_top (y := nI (le (pl + 1))) rfl ?_
  refine xr_iadd hx hb dX0_join_15 ?_
  refine xr_iastN hx hb hK hP hD hS 2 1 rfl rfl (by omega) (by omega) dX0_join_16 (fun H locs hP hD hS => ?_)
  have hP : va_P (dC, dI) vwCl [(oL, .inr (0, [.ref oS, .ref oN, .int (nI ct), .int (nI ht)])), (oS, .inl (cI, M, .inl (fun j => nI (st j)))), (oN, .inl (cI, M, .inl (fun j => nI ((uN_up le pl (le pl + (le (pl + 1)))) j))))] H := hP
  have hD : va_D A [(oL, .inr (0, [.ref oS, .ref oN, .int (nI ct), .int (nI ht)])), (oS, .inl (cI, M, .inl (fun j => nI (st j)))), (oN, .inl (cI, M, .inl (fun j => nI ((uN_up le pl (le pl + (le (pl + 1)))) j))))] := hD
  refine lv_aload_n hx hb dX0_join_17 rfl (lv_at hl 0 rfl) ?_
  refine lv_dup hx hb dX0_join_18 rfl ?_
  refine va_get (D := (dC, dI)) (ci := 0) (v := .int (nI ct)) (C := RX0) (T := TX0) (N := 4) hx hb hts hin_0 hown hK hP 0 rfl rfl 2 (by decide) k_2 (fun _ h9 => h9) rfl dX0_join_19 ?_
  refine lv_iconst (v := nI 1) hx hb dX0_join_22 (by decide) ?_
  refine xr_isub hx hb dX0_join_23 (by omega) ?_
  refine va_put (D := (dC, dI)) (ci := 0) (v := .int (nI (ct - 1))) (ty := .int) (C := RX0) (T := TX0) (N := 4) hx hb hts hin_0 tyX0 tyX0_ok nmX0 hown hK hP hD hS 0 rfl rfl 2 (by decide) k_2 (fun _ h9 => h9) rfl (by decide +kernel) rfl rfl (Nat.le_of_ble_eq_true rfl) dX0_join_24 (fun H locs hP hD hS => ?_)
  have hP : va_P (dC, dI) vwCl [(oL, .inr (0, [.ref oS, .ref oN, .int (nI (ct - 1)), .int (nI ht)])), (oS, .inl (cI, M, .inl (fun j => nI (st j)))), (oN, .inl (cI, M, .inl (fun j => nI ((uN_up le pl (le pl + (le (pl + 1)))) j))))] H := hP
  have hD : va_D A [(oL, .inr (0, [.ref oS, .ref oN, .int (nI (ct - 1)), .int (nI ht)])), (oS, .inl (cI, M, .inl (fun j => nI (st j)))), (oN, .inl (cI, M, .inl (fun j => nI ((uN_up le pl (le pl + (le (pl + 1)))) j))))] := hD
  refine lv_iload_n hx hb dX0_join_27 rfl (lv_at hl 1 rfl) ?_
  refine lv_iconst (v := nI 1) hx hb dX0_join_28 (by decide) ?_
  refine xr_iadd hx hb dX0_join_29 ?_
  refine lv_istore_n (lv' := [(2, .int (nI (pl + 1))), (0, .ref oL), (1, .int (nI pl))]) hx hb dX0_join_30 rfl hl (by decide) rfl (fun ls hl => ?_)
  have L_j : ∀ (kq : Nat) (i : Nat), (pl + 1 ≤ i) → (i ≤ ct - 1) → ct - 1 - i < kq → ∀ (H : Heap) (locs : List Loc) (ls : Array Slot), va_P (dC, dI) vwCl [(oL, .inr (0, [.ref oS, .ref oN, .int (nI (ct - 1)), .int (nI ht)])), (oS, .inl (cI, M, .inl (fun j => nI ((shf st (pl + 1) i) j)))), (oN, .inl (cI, M, .inl (fun j => nI ((shf (uN_up le pl (le pl + le (pl + 1))) (pl + 1) i) j))))] H → va_D A [(oL, .inr (0, [.ref oS, .ref oN, .int (nI (ct - 1)), .int (nI ht)])), (oS, .inl (cI, M, .inl (fun j => nI ((shf st (pl + 1) i) j)))), (oN, .inl (cI, M, .inl (fun j => nI ((shf (uN_up le pl (le pl + le (pl + 1))) (pl + 1) i) j))))] → va_S A s.heap H locs → lv_has ls 3 [(2, .int (nI i)), (0, .ref oL), (1, .int (nI pl))] → W p l e rmX0_join s m args below meth c H locs 0 0 Q (F0 m 31 ls []) := by
    intro kq
    induction kq with
    | zero =>
      intro i h1 h2 hm
      exact absurd hm (Nat.not_lt_zero _)
    | succ kq ih_j =>
      intro i h1 h2 hm H locs ls hP hD hS hl
      refine lv_iload_n hx hb dX0_join_31 rfl (lv_at hl 0 rfl) ?_
      refine lv_aload_n hx hb dX0_join_32 rfl (lv_at hl 1 rfl) ?_
      refine va_get (D := (dC, dI)) (ci := 0) (v := .int (nI (ct - 1))) (C := RX0) (T := TX0) (N := 4) hx hb hts hin_0 hown hK hP 0 rfl rfl 2 (by decide) k_2 (fun _ h9 => h9) rfl dX0_join_33 ?_
      refine xr_icmp_ge (tgt := 73) hx hb dX0_join_36 (by decide) (by omega) (by omega) (fun c_36 => ?_) (fun c_36 => ?_)
      · have hi : i = ct - 1 := by omega
        subst hi
        exact hret () _ _ _ _ _ _ (trivial) hP hK hD hS (Nat.le_of_ble_eq_true rfl) (Nat.le_of_ble_eq_true rfl) dX0_join_73
      · refine lv_aload_n hx hb dX0_join_39 rfl (lv_at hl 1 rfl) ?_
        refine va_get (D := (dC, dI)) (ci := 0) (v := .ref oS) (C := RX0) (T := TX0) (N := 4) hx hb hts hin_0 hown hK hP 0 rfl rfl 0 (by decide) k_3 (fun _ h9 => h9) rfl dX0_join_40 ?_
        refine lv_iload_n hx hb dX0_join_43 rfl (lv_at hl 0 rfl) ?_
        refine lv_aload_n hx hb dX0_join_44 rfl (lv_at hl 1 rfl) ?_
        refine va_get (D := (dC, dI)) (ci := 0) (v := .ref oS) (C := RX0) (T := TX0) (N := 4) hx hb hts hin_0 hown hK hP 0 rfl rfl 0 (by decide) k_3 (fun _ h9 => h9) rfl dX0_join_45 ?_
        refine lv_iload_n hx hb dX0_join_48 rfl (lv_at hl 0 rfl) ?_
        refine lv_iconst (v := nI 1) hx hb dX0_join_49 (by decide) ?_
        refine xr_iadd hx hb dX0_join_50 ?_
        refine xr_iald hx hb hK hP 1 1 rfl rfl (by omega) (by omega) dX0_join_51 ?_
        refine xr_top (y := nI ((shf st (pl + 1) i) (i + 1))) rfl ?_
        refine xr_iastN hx hb hK hP hD hS 1 1 rfl rfl (by omega) (by omega) dX0_join_52 (fun H locs hP hD hS => ?_)
        have hP : va_P (dC, dI) vwCl [(oL, .inr (0, [.ref oS, .ref oN, .int (nI (ct - 1)), .int (nI ht)])), (oS, .inl (cI, M, .inl (fun j => nI ((uN_up (shf st (pl + 1) i) i ((shf st (pl + 1) i) (i + 1))) j)))), (oN, .inl (cI, M, .inl (fun j => nI ((shf (uN_up le pl (le pl + le (pl + 1))) (pl + 1) i) j))))] H := hP
        have hD : va_D A [(oL, .inr (0, [.ref oS, .ref oN, .int (nI (ct - 1)), .int (nI ht)])), (oS, .inl (cI, M, .inl (fun j => nI ((uN_up (shf st (pl + 1) i) i ((shf st (pl + 1) i) (i + 1))) j)))), (oN, .inl (cI, M, .inl (fun j => nI ((shf (uN_up le pl (le pl + le (pl + 1))) (pl + 1) i) j))))] := hD
        refine lv_aload_n hx hb dX0_join_53 rfl (lv_at hl 1 rfl) ?_
        refine va_get (D := (dC, dI)) (ci := 0) (v := .ref oN) (C := RX0) (T := TX0) (N := 4) hx hb hts hin_0 hown hK hP 0 rfl rfl 1 (by decide) k_1 (fun _ h9 => h9) rfl dX0_join_54 ?_
        refine lv_iload_n hx hb dX0_join_57 rfl (lv_at hl 0 rfl) ?_
        refine lv_aload_n hx hb dX0_join_58 rfl (lv_at hl 1 rfl) ?_
        refine va_get (D := (dC, dI)) (ci := 0) (v := .ref oN) (C := RX0) (T := TX0) (N := 4) hx hb hts hin_0 hown hK hP 0 rfl rfl 1 (by decide) k_1 (fun _ h9 => h9) rfl dX0_join_59 ?_
        refine lv_iload_n hx hb dX0_join_62 rfl (lv_at hl 0 rfl) ?_
        refine lv_iconst (v := nI 1) hx hb dX0_join_63 (by decide) ?_
        refine xr_iadd hx hb dX0_join_64 ?_
        refine xr_iald hx hb hK hP 2 1 rfl rfl (by omega) (by omega) dX0_join_65 ?_
        refine xr_top (y := nI ((shf (uN_up le pl (le pl + le (pl + 1))) (pl + 1) i) (i + 1))) rfl ?_
        refine xr_iastN hx hb hK hP hD hS 2 1 rfl rfl (by omega) (by omega) dX0_join_66 (fun H locs hP hD hS => ?_)
        have hP : va_P (dC, dI) vwCl [(oL, .inr (0, [.ref oS, .ref oN, .int (nI (ct - 1)), .int (nI ht)])), (oS, .inl (cI, M, .inl (fun j => nI ((uN_up (shf st (pl + 1) i) i ((shf st (pl + 1) i) (i + 1))) j)))), (oN, .inl (cI, M, .inl (fun j => nI ((uN_up (shf (uN_up le pl (le pl + le (pl + 1))) (pl + 1) i) i ((shf (uN_up le pl (le pl + le (pl + 1))) (pl + 1) i) (i + 1))) j))))] H := hP
        have hD : va_D A [(oL, .inr (0, [.ref oS, .ref oN, .int (nI (ct - 1)), .int (nI ht)])), (oS, .inl (cI, M, .inl (fun j => nI ((uN_up (shf st (pl + 1) i) i ((shf st (pl + 1) i) (i + 1))) j)))), (oN, .inl (cI, M, .inl (fun j => nI ((uN_up (shf (uN_up le pl (le pl + le (pl + 1))) (pl + 1) i) i ((shf (uN_up le pl (le pl + le (pl + 1))) (pl + 1) i) (i + 1))) j))))] := hD
        rw [shf_s st h1, shf_s (uN_up le pl (le pl + le (pl + 1))) h1] at hP hD
        refine lv_iinc (v := nI (i + 1)) (lv' := [(2, .int (nI (i + 1))), (0, .ref oL), (1, .int (nI pl))]) hx hb dX0_join_67 hl (k := 0) rfl (nI_add i 1) (by decide) rfl (fun ls hl => ?_)
        refine lv_goto (tgt := 31) hx hb dX0_join_70 (by decide) ?_
        exact ih_j (i + 1) (by omega) (by omega) (by omega) _ _ _ hP hD hS (lv_sub hl [0, 1, 2] rfl)
  exact L_j (_ + 1) (pl + 1) (by omega) (by omega) (Nat.lt_succ_self _) _ _ _ (by rw [shf_0, shf_0]; exact hP) (by rw [shf_0, shf_0]; exact hD) hS (lv_sub hl [0, 1, 2] rfl)

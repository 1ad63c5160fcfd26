theorem mrg_keep {f0 f2 f3 : Nat → Int64} {st le : Nat → Nat} {ct e p : Nat} (hp : p + 1 < ct) (hc : pC st le ct e) (hx : ∀ j, e ≤ j → f2 j = f0 j) (hE : sE ky (sg f2 0 e) (sg f0 0 e)) (hk : okp f2 f3 (st p) (st p + (le p + le (p + 1)))) : (∀ j, e ≤ j → f3 j = f0 j) ∧ sE ky (sg f3 0 e) (sg f0 0 e) := by
  have q1 := hc.1 p hp
  have q3 := hc.2.2 (p + 1) hp
  refine ⟨fun j hj => ?_, ?_⟩
  · rw [hk.1 j (Or.inr (by omega))]; exact hx j hj
  · exact sE_trans (sE_in (Nat.zero_le _) (Nat.le_add_right _ _) (by omega) (fun j _ g => hk.1 j (Or.inl g)) (fun j g _ => hk.1 j (Or.inr g)) hk.2.2) hE
theorem run_keep {f f2 f3 f5 : Nat → Int64} {a m : Nat} (hx : ∀ j, a ≤ j → f2 j = f j) (hE : sE ky (sg f2 0 a) (sg f 0 a)) (hk : okp f2 f3 a (a + m)) (h5 : ∀ j, a + m ≤ j → f5 j = f3 j) (hE5 : sE ky (sg f5 0 (a + m)) (sg f3 0 (a + m))) : (∀ j, a + m ≤ j → f5 j = f j) ∧ sE ky (sg f5 0 (a + m)) (sg f 0 (a + m)) := by
  refine ⟨fun j hj => ?_, ?_⟩
  · rw [h5 j hj, hk.1 j (Or.inr hj)]; exact hx j (by omega)
  · refine sE_trans hE5 (sE_trans (sE_in (Nat.zero_le a) (Nat.le_add_right a m) (Nat.le_refl _) (fun j _ g => hk.1 j (Or.inl g)) (fun j g g2 => absurd g2 (by omega)) hk.2.2) ?_)
    exact sE_in (Nat.le_refl 0) (Nat.zero_le a) (Nat.le_add_right a m) (fun j g g2 => absurd g2 (by omega)) (fun j g _ => hx j g) hE
def rnQ (κ : Nat → Int) (n : Nat) (rl le : Nat → Nat) : Nat × (Nat → Nat) × Nat × Nat × Nat := if n < 2 then (0, rl, 0, 0, 0) else rnP κ n rl le
theorem rnQ_congr {κ κ' : Nat → Int} {n : Nat} (hκ : ∀ j, j < n → κ j = κ' j) (rl rl' le le' : Nat → Nat) : (rnQ κ n rl le).1 = (rnQ κ' n rl' le').1 ∧ eqB (rnQ κ n rl le).2.1 (rnQ κ' n rl' le').2.1 (rnQ κ n rl le).1 ∧ (rnQ κ n rl le).2.2 = (rnQ κ' n rl' le').2.2 := by
  unfold rnQ
  by_cases h : n < 2
  · rw [if_pos h, if_pos h]
    exact ⟨rfl, fun j hj => absurd hj (Nat.not_lt_zero j), rfl⟩
  · rw [if_neg h, if_neg h]
    exact rnP_congr hκ rl rl' le le'
theorem lsR_use {n : Nat} : (n < 32 ∧ lsR n 0 = n) ∨ (16 ≤ lsR n 0 ∧ lsR n 0 ≤ 32) := by
  by_cases h : n < 32
  · exact Or.inl ⟨h, by rw [lsR_lt h, Nat.add_zero]⟩
  · exact Or.inr (lsR_in n 0 (by omega) (by omega))
abbrev rmX1_mergeAt : Room := { frames := 2, cells := 0, slots := 0, locals := 55 }
set_option maxRecDepth 100000 in
set_option maxHeartbeats 4000000 in
theorem c_X1_mergeAt (l : Launch) (dC : Nat → ClassId) (dI : Nat → Nat → Nat) (cJ cI : ClassId) (o oP oA oL oR oS oN C M n ru me mp gh ct ht : Nat) (f g : Nat → Int64) (st le : Nat → Nat) (pp e1 : Nat) (hp : pp + 1 < ct) (hM : ct ≤ M) (hM2 : M < 2 ^ 30) (hc : pC st le ct e1) (he : e1 ≤ C) (hC : C ≤ 4096) (hs : pS f st le ct) : CV l yX1_mergeAt wsX1_mergeAt rmX1_mergeAt [.ref o, .int (nI pp)] (dC, dI) vwCl (KT cJ cI) [(o, .inr (1, [.ref oP, .int (nI n), .ref oA, .ref oL, .ref oR, .int (nI ru), .int (nI me), .long (lN mp), .int (nI gh)])), (oP, .inl (cJ, C, .inr (.inl f))), (oA, .inl (cJ, (C / 2), .inr (.inl g))), (oL, .inr (0, [.ref oS, .ref oN, .int (nI ct), .int (nI ht)])), (oS, .inl (cI, M, .inl (fun j => nI (st j)))), (oN, .inl (cI, M, .inl (fun j => nI (le j))))] (S := (Nat → Int64) × (Nat → Int64)) (fun u => okp f u.1 (st pp) (st pp + (le pp + le (pp + 1)))) (fun _ => KT cJ cI) (fun u => [(o, .inr (1, [.ref oP, .int (nI n), .ref oA, .ref oL, .ref oR, .int (nI ru), .int (nI (me + 1)), .long (lN (mp + (le pp + le (pp + 1)))), .int (nI gh)])), (oP, .inl (cJ, C, .inr (.inl u.1))), (oA, .inl (cJ, (C / 2), .inr (.inl u.2))), (oL, .inr (0, [.ref oS, .ref oN, .int (nI (ct - 1)), .int (nI ht)])), (oS, .inl (cI, M, .inl (fun j => nI ((shf st (pp + 1) (ct - 1)) j)))), (oN, .inl (cI, M, .inl (fun j => nI ((jn le ct pp) j))))]) := by
  refine CV.mk (by decide) rfl (Nat.le_of_ble_eq_true rfl) ?_
  intro p e s m args below meth c A Q ls hx hb hml hown hts hin hA hS hP hD hK hN hl hret
  have hl : lv_has ls 5 [(0, .ref o), (1, .int (nI pp))] := hl
  have hin_0 : ∀ w ∈ u_ws RX0 TX0 4, w ∈ wsX1_mergeAt := by decide +kernel
  have hin_1 : ∀ w ∈ u_ws RX1 TX1 9, w ∈ wsX1_mergeAt := by decide +kernel
  have k_1 := hts (Cond.fieldLink RX1 30 "PairSorter" "pile" "LPairSorter$Pile;") (by decide +kernel)
  have k_2 := va_Nw.use (A := args) rfl (hN (Cond.fieldLinkNest RX1 146 "PairSorter$Pile" "starts" "[I" "PairSorter") (by decide +kernel))
  have k_3 := va_Nw.use (A := args) rfl (hN (Cond.fieldLinkNest RX1 149 "PairSorter$Pile" "lengths" "[I" "PairSorter") (by decide +kernel))
  have k_4 := hts (Cond.fieldLink RX1 92 "PairSorter" "merges" "I") (by decide +kernel)
  have k_5 := hts (Cond.fieldLink RX1 95 "PairSorter" "mergedPairs" "J") (by decide +kernel)
  have q1 := hc.1 pp hp
  have q2 := hc.2.2 pp (by omega)
  have q3 := hc.2.2 (pp + 1) hp
  refine lv_aload_n hx hb dX1_mergeAt_0 rfl (lv_at hl 0 rfl) ?_
  refine va_get (D := (dC, dI)) (ci := 1) (v := .ref oL) (C := RX1) (T := TX1) (N := 9) hx hb hts hin_1 hown hK hP 0 rfl rfl 3 (by decide) k_1 (fun _ h9 => h9) rfl dX1_mergeAt_1 ?_
  refine va_getN (D := (dC, dI)) (ci := 0) (v := .ref oS) (C := RX0) (T := TX0) (N := 4) hx hb hts hin_0 hown hK hP 3 rfl rfl 0 (by decide) k_2 (fun _ h9 => h9) rfl dX1_mergeAt_4 ?_
  refine lv_iload_n hx hb dX1_mergeAt_7 rfl (lv_at hl 1 rfl) ?_
  refine xr_iald hx hb hK hP 4 1 rfl rfl (by omega) (by omega) dX1_mergeAt_8 ?_
  refine xr_top (y := nI (st pp)) rfl ?_
  refine lv_istore_n (lv' := [(2, .int (nI (st pp))), (0, .ref o), (1, .int (nI pp))]) hx hb dX1_mergeAt_9 rfl hl (by decide) rfl (fun ls hl => ?_)
  refine lv_aload_n hx hb dX1_mergeAt_10 rfl (lv_at hl 1 rfl) ?_
  refine va_get (D := (dC, dI)) (ci := 1) (v := .ref oL) (C := RX1) (T := TX1) (N := 9) hx hb hts hin_1 hown hK hP 0 rfl rfl 3 (by decide) k_1 (fun _ h9 => h9) rfl dX1_mergeAt_11 ?_
  refine va_getN (D := (dC, dI)) (ci := 0) (v := .ref oS) (C := RX0) (T := TX0) (N := 4) hx hb hts hin_0 hown hK hP 3 rfl rfl 0 (by decide) k_2 (fun _ h9 => h9) rfl dX1_mergeAt_14 ?_
  refine lv_iload_n hx hb dX1_mergeAt_17 rfl (lv_at hl 2 rfl) ?_
  refine lv_iconst (v := nI 1) hx hb dX1_mergeAt_18 (by decide) ?_
  refine xr_iadd hx hb dX1_mergeAt_19 ?_
  refine xr_iald hx hb hK hP 4 1 rfl rfl (by omega) (by omega) dX1_mergeAt_20 ?_
  refine xr_top (y := nI (st (pp + 1))) rfl ?_
  refine lv_istore_n (lv' := [(3, .int (nI (st (pp + 1)))), (2, .int (nI (st pp))), (0, .ref o), (1, .int (nI pp))]) hx hb dX1_mergeAt_21 rfl hl (by decide) rfl (fun ls hl => ?_)
  refine lv_iload_n hx hb dX1_mergeAt_22 rfl (lv_at hl 0 rfl) ?_
  refine lv_aload_n hx hb dX1_mergeAt_23 rfl (lv_at hl 2 rfl) ?_
  refine va_get (D := (dC, dI)) (ci := 1) (v := .ref oL) (C := RX1) (T := TX1) (N := 9) hx hb hts hin_1 hown hK hP 0 rfl rfl 3 (by decide) k_1 (fun _ h9 => h9) rfl dX1_mergeAt_24 ?_
  refine va_getN (D := (dC, dI)) (ci := 0) (v := .ref oN) (C := RX0) (T := TX0) (N := 4) hx hb hts hin_0 hown hK hP 3 rfl rfl 1 (by decide) k_3 (fun _ h9 => h9) rfl dX1_mergeAt_27 ?_
  refine lv_iload_n hx hb dX1_mergeAt_30 rfl (lv_at hl 3 rfl) ?_
  refine lv_iconst (v := nI 1) hx hb dX1_mergeAt_31 (by decide) ?_
  refine xr_iadd hx hb dX1_mergeAt_32 ?_
  refine xr_iald hx hb hK hP 5 1 rfl rfl (by omega) (by omega) dX1_mergeAt_33 ?_
  refine xr_top (y := nI (le (pp + 1))) rfl ?_
  refine xr_iadd hx hb dX1_mergeAt_34 ?_
  refine lv_istore (lv' := [(4, .int (nI (st (pp + 1) + (le (pp + 1))))), (3, .int (nI (st (pp + 1)))), (2, .int (nI (st pp))), (0, .ref o), (1, .int (nI pp))]) hx hb dX1_mergeAt_35 hl (by decide) rfl (fun ls hl => ?_)
  refine lv_iload_n hx hb dX1_mergeAt_37 rfl (lv_at hl 1 rfl) ?_
  refine lv_iload_n hx hb dX1_mergeAt_38 rfl (lv_at hl 2 rfl) ?_
  refine xr_isub hx hb dX1_mergeAt_39 (by omega) ?_
  refine lv_iload hx hb dX1_mergeAt_40 (lv_at hl 0 rfl) ?_
  refine lv_iload_n hx hb dX1_mergeAt_42 rfl (lv_at hl 1 rfl) ?_
  refine xr_isub hx hb dX1_mergeAt_43 (by omega) ?_
  refine xr_icmp_gt (tgt := 58) hx hb dX1_mergeAt_44 (by decide) (by omega) (by omega) (fun c_44 => ?_) (fun c_44 => ?_)
  · refine lv_aload_n hx hb dX1_mergeAt_58 rfl (lv_at hl 3 rfl) ?_
    refine lv_iload_n hx hb dX1_mergeAt_59 rfl (lv_at hl 2 rfl) ?_
    refine lv_iload_n hx hb dX1_mergeAt_60 rfl (lv_at hl 1 rfl) ?_
    refine lv_iload hx hb dX1_mergeAt_61 (lv_at hl 0 rfl) ?_
    refine call_V_V (As := [.int (nI (st pp)), .int (nI (st (pp + 1))), .int (nI (st (pp + 1) + (le (pp + 1))))]) (rest := []) (wr := [(oL, .inr (0, [.ref oS, .ref oN, .int (nI ct), .int (nI ht)])), (oS, .inl (cI, M, .inl (fun j => nI (st j)))), (oN, .inl (cI, M, .inl (fun j => nI (le j))))]) ⟨hx, hb, hml, hown, hts⟩ (c_X1_mergeBackward l dC dI cJ cI o oP oA oL oR C n ru me gh (lN mp) f g (st pp) (st (pp + 1)) (st (pp + 1) + le (pp + 1)) (by omega) (by omega) (by omega) hC (by omega) (by rw [q1]; exact hs pp (by omega)) (hs (pp + 1) hp)) (cwV 3 hts gX1_mergeAt_X1_mergeBackward rfl rfl rfl (by decide +kernel) ⟨Nat.le_of_ble_eq_true rfl, Nat.le_of_ble_eq_true rfl⟩) hP hD hK hN hS hA [0, 1, 2] [3, 4, 5] [0, 1] rfl rfl rfl (by decide) (by decide) (by decide) 0 1 rfl rfl rfl rfl hl.1 rfl (Nat.le_of_ble_eq_true rfl) dX1_mergeAt_63 (Nat.le_of_ble_eq_true rfl) (Nat.le_of_ble_eq_true rfl) (fun u_63 H locs hw_63 hP hD hK1 hS => ?_)
    refine W.widen (k := 0) (n := 0) (Nat.le_of_ble_eq_true rfl) (Nat.le_of_ble_eq_true rfl) ?_
    obtain ⟨f1, g1⟩ := u_63
    have hw : okp f f1 (st pp) (st (pp + 1) + le (pp + 1)) := hw_63
    have hP : va_P (dC, dI) vwCl [(o, .inr (1, [.ref oP, .int (nI n), .ref oA, .ref oL, .ref oR, .int (nI ru), .int (nI me), .long (lN mp), .int (nI gh)])), (oP, .inl (cJ, C, .inr (.inl f1))), (oA, .inl (cJ, (C / 2), .inr (.inl g1))), (oL, .inr (0, [.ref oS, .ref oN, .int (nI ct), .int (nI ht)])), (oS, .inl (cI, M, .inl (fun j => nI (st j)))), (oN, .inl (cI, M, .inl (fun j => nI (le j))))] H := ct_Psub hP [3, 4, 5, 0, 1, 2] rfl
    have hD : va_D A [(o, .inr (1, [.ref oP, .int (nI n), .ref oA, .ref oL, .ref oR, .int (nI ru), .int (nI me), .long (lN mp), .int (nI gh)])), (oP, .inl (cJ, C, .inr (.inl f1))), (oA, .inl (cJ, (C / 2), .inr (.inl g1))), (oL, .inr (0, [.ref oS, .ref oN, .int (nI ct), .int (nI ht)])), (oS, .inl (cI, M, .inl (fun j => nI (st j)))), (oN, .inl (cI, M, .inl (fun j => nI (le j))))] := hD.sub [3, 4, 5, 0, 1, 2] (by decide) rfl
    refine lv_aload_n hx hb dX1_mergeAt_66 rfl (lv_at hl 3 rfl) ?_
    refine va_get (D := (dC, dI)) (ci := 1) (v := .ref oL) (C := RX1) (T := TX1) (N := 9) hx hb hts hin_1 hown hK hP 0 rfl rfl 3 (by decide) k_1 (fun _ h9 => h9) rfl dX1_mergeAt_67 ?_
    refine lv_iload_n hx hb dX1_mergeAt_70 rfl (lv_at hl 4 rfl) ?_
    refine call_VN_V (As := [.int (nI pp)]) (rest := []) (wr := [(o, .inr (1, [.ref oP, .int (nI n), .ref oA, .ref oL, .ref oR, .int (nI ru), .int (nI me), .long (lN mp), .int (nI gh)])), (oP, .inl (cJ, C, .inr (.inl f1))), (oA, .inl (cJ, (C / 2), .inr (.inl g1)))]) ⟨hx, hb, hml, hown, hts⟩ (c_X0_join l dC dI cJ cI oL oS oN M ct ht pp st le hp hM hM2) (⟨va_cnB (host := "PairSorter") 1 hts gX1_mergeAt_X0_join_n159 rfl rfl rfl (hN _ (by decide +kernel)) (hts (.initialized RX0) (by decide +kernel)) (by decide +kernel) ⟨Nat.le_of_ble_eq_true rfl, Nat.le_of_ble_eq_true rfl⟩, hts (.instanceMethod yX0_join) (by decide +kernel), hts (.selects RX0 yX0_join yX0_join) (by decide +kernel)⟩) hP hD hK hN hS hA [3, 4, 5] [0, 1, 2] [0, 1] rfl rfl rfl (by decide) (by decide) (by decide) 0 0 rfl rfl rfl rfl hl.1 rfl (Nat.le_of_ble_eq_true rfl) dX1_mergeAt_71 (Nat.le_of_ble_eq_true rfl) (Nat.le_of_ble_eq_true rfl) (fun u_71 H locs hw_71 hP hD hK1 hS => ?_)
    refine W.widen (k := 0) (n := 0) (Nat.le_of_ble_eq_true rfl) (Nat.le_of_ble_eq_true rfl) ?_
    have hP : va_P (dC, dI) vwCl [(o, .inr (1, [.ref oP, .int (nI n), .ref oA, .ref oL, .ref oR, .int (nI ru), .int (nI me), .long (lN mp), .int (nI gh)])), (oP, .inl (cJ, C, .inr (.inl f1))), (oA, .inl (cJ, (C / 2), .inr (.inl g1))), (oL, .inr (0, [.ref oS, .ref oN, .int (nI (ct - 1)), .int (nI ht)])), (oS, .inl (cI, M, .inl (fun j => nI ((shf st (pp + 1) (ct - 1)) j)))), (oN, .inl (cI, M, .inl (fun j => nI ((jn le ct pp) j))))] H := ct_Psub hP [0, 1, 2, 3, 4, 5] rfl
    have hD : va_D A [(o, .inr (1, [.ref oP, .int (nI n), .ref oA, .ref oL, .ref oR, .int (nI ru), .int (nI me), .long (lN mp), .int (nI gh)])), (oP, .inl (cJ, C, .inr (.inl f1))), (oA, .inl (cJ, (C / 2), .inr (.inl g1))), (oL, .inr (0, [.ref oS, .ref oN, .int (nI (ct - 1)), .int (nI ht)])), (oS, .inl (cI, M, .inl (fun j => nI ((shf st (pp + 1) (ct - 1)) j)))), (oN, .inl (cI, M, .inl (fun j => nI ((jn le ct pp) j))))] := hD.sub [0, 1, 2, 3, 4, 5] (by decide) rfl
    refine lv_aload_n hx hb dX1_mergeAt_74 rfl (lv_at hl 3 rfl) ?_
    refine lv_dup hx hb dX1_mergeAt_75 rfl ?_
    refine va_get (D := (dC, dI)) (ci := 1) (v := .int (nI me)) (C := RX1) (T := TX1) (N := 9) hx hb hts hin_1 hown hK hP 0 rfl rfl 6 (by decide) k_4 (fun _ h9 => h9) rfl dX1_mergeAt_76 ?_
    refine lv_iconst (v := nI 1) hx hb dX1_mergeAt_79 (by decide) ?_
    refine xr_iadd hx hb dX1_mergeAt_80 ?_
    refine va_put (D := (dC, dI)) (ci := 1) (v := .int (nI (me + 1))) (ty := .int) (C := RX1) (T := TX1) (N := 9) hx hb hts hin_1 tyX1 tyX1_ok nmX1 hown hK hP hD hS 0 rfl rfl 6 (by decide) k_4 (fun _ h9 => h9) rfl (by decide +kernel) rfl rfl (Nat.le_of_ble_eq_true rfl) dX1_mergeAt_81 (fun H locs hP hD hS => ?_)
    have hP : va_P (dC, dI) vwCl [(o, .inr (1, [.ref oP, .int (nI n), .ref oA, .ref oL, .ref oR, .int (nI ru), .int (nI (me + 1)), .long (lN mp), .int (nI gh)])), (oP, .inl (cJ, C, .inr (.inl f1))), (oA, .inl (cJ, (C / 2), .inr (.inl g1))), (oL, .inr (0, [.ref oS, .ref oN, .int (nI (ct - 1)), .int (nI ht)])), (oS, .inl (cI, M, .inl (fun j => nI ((shf st (pp + 1) (ct - 1)) j)))), (oN, .inl (cI, M, .inl (fun j => nI ((jn le ct pp) j))))] H := hP
    have hD : va_D A [(o, .inr (1, [.ref oP, .int (nI n), .ref oA, .ref oL, .ref oR, .int (nI ru), .int (nI (me + 1)), .long (lN mp), .int (nI gh)])), (oP, .inl (cJ, C, .inr (.inl f1))), (oA, .inl (cJ, (C / 2), .inr (.inl g1))), (oL, .inr (0, [.ref oS, .ref oN, .int (nI (ct - 1)), .int (nI ht)])), (oS, .inl (cI, M, .inl (fun j => nI ((shf st (pp + 1) (ct - 1)) j)))), (oN, .inl (cI, M, .inl (fun j => nI ((jn le ct pp) j))))] := hD
    refine lv_aload_n hx hb dX1_mergeAt_84 rfl (lv_at hl 3 rfl) ?_
    refine lv_dup hx hb dX1_mergeAt_85 rfl ?_
    refine va_get (D := (dC, dI)) (ci := 1) (v := .long (lN mp)) (C := RX1) (T := TX1) (N := 9) hx hb hts hin_1 hown hK hP 0 rfl rfl 7 (by decide) k_5 (fun _ h9 => h9) rfl dX1_mergeAt_86 ?_
    refine lv_iload hx hb dX1_mergeAt_89 (lv_at hl 0 rfl) ?_
    refine lv_iload_n hx hb dX1_mergeAt_91 rfl (lv_at hl 2 rfl) ?_
    refine xr_isub hx hb dX1_mergeAt_92 (by omega) ?_
    refine lv_i2l hx hb dX1_mergeAt_93 rfl ?_
    refine xr_topl (y := lN (le pp + le (pp + 1))) ((nI_l (by omega)).trans (by rw [show st (pp + 1) + le (pp + 1) - st pp = le pp + le (pp + 1) by omega])) ?_
    refine lv_ladd hx hb dX1_mergeAt_94 ?_
    refine xr_topl (y := lN (mp + (le pp + le (pp + 1)))) (lN_add _ _) ?_
    refine va_put (D := (dC, dI)) (ci := 1) (v := .long (lN (mp + (le pp + le (pp + 1))))) (ty := .long) (C := RX1) (T := TX1) (N := 9) hx hb hts hin_1 tyX1 tyX1_ok nmX1 hown hK hP hD hS 0 rfl rfl 7 (by decide) k_5 (fun _ h9 => h9) rfl (by decide +kernel) rfl rfl (Nat.le_of_ble_eq_true rfl) dX1_mergeAt_95 (fun H locs hP hD hS => ?_)
    have hP : va_P (dC, dI) vwCl [(o, .inr (1, [.ref oP, .int (nI n), .ref oA, .ref oL, .ref oR, .int (nI ru), .int (nI (me + 1)), .long (lN (mp + (le pp + le (pp + 1)))), .int (nI gh)])), (oP, .inl (cJ, C, .inr (.inl f1))), (oA, .inl (cJ, (C / 2), .inr (.inl g1))), (oL, .inr (0, [.ref oS, .ref oN, .int (nI (ct - 1)), .int (nI ht)])), (oS, .inl (cI, M, .inl (fun j => nI ((shf st (pp + 1) (ct - 1)) j)))), (oN, .inl (cI, M, .inl (fun j => nI ((jn le ct pp) j))))] H := hP
    have hD : va_D A [(o, .inr (1, [.ref oP, .int (nI n), .ref oA, .ref oL, .ref oR, .int (nI ru), .int (nI (me + 1)), .long (lN (mp + (le pp + le (pp + 1)))), .int (nI gh)])), (oP, .inl (cJ, C, .inr (.inl f1))), (oA, .inl (cJ, (C / 2), .inr (.inl g1))), (oL, .inr (0, [.ref oS, .ref oN, .int (nI (ct - 1)), .int (nI ht)])), (oS, .inl (cI, M, .inl (fun j => nI ((shf st (pp + 1) (ct - 1)) j)))), (oN, .inl (cI, M, .inl (fun j => nI ((jn le ct pp) j))))] := hD
    exact hret (f1, g1) _ _ _ _ _ _ (by rw [show st pp + (le pp + le (pp + 1)) = st (pp + 1) + le (pp + 1) by omega]; exact hw) hP hK hD hS (Nat.le_of_ble_eq_true rfl) (Nat.le_of_ble_eq_true rfl) dX1_mergeAt_98
  · refine lv_aload_n hx hb dX1_mergeAt_47 rfl (lv_at hl 3 rfl) ?_
    refine lv_iload_n hx hb dX1_mergeAt_48 rfl (lv_at hl 2 rfl) ?_
    refine lv_iload_n hx hb dX1_mergeAt_49 rfl (lv_at hl 1 rfl) ?_
    refine lv_iload hx hb dX1_mergeAt_50 (lv_at hl 0 rfl) ?_
    refine call_V_V (As := [.int (nI (st pp)), .int (nI (st (pp + 1))), .int (nI (st (pp + 1) + (le (pp + 1))))]) (rest := []) (wr := [(oL, .inr (0, [.ref oS, .ref oN, .int (nI ct), .int (nI ht)])), (oS, .inl (cI, M, .inl (fun j => nI (st j)))), (oN, .inl (cI, M, .inl (fun j => nI (le j))))]) ⟨hx, hb, hml, hown, hts⟩ (c_X1_mergeForward l dC dI cJ cI o oP oA oL oR C n ru me gh (lN mp) f g (st pp) (st (pp + 1)) (st (pp + 1) + le (pp + 1)) (by omega) (by omega) (by omega) hC (by omega) (by rw [q1]; exact hs pp (by omega)) (hs (pp + 1) hp)) (cwV 3 hts gX1_mergeAt_X1_mergeForward rfl rfl rfl (by decide +kernel) ⟨Nat.le_of_ble_eq_true rfl, Nat.le_of_ble_eq_true rfl⟩) hP hD hK hN hS hA [0, 1, 2] [3, 4, 5] [0, 1] rfl rfl rfl (by decide) (by decide) (by decide) 0 1 rfl rfl rfl rfl hl.1 rfl (Nat.le_of_ble_eq_true rfl) dX1_mergeAt_52 (Nat.le_of_ble_eq_true rfl) (Nat.le_of_ble_eq_true rfl) (fun u_52 H locs hw_52 hP hD hK1 hS => ?_)
    refine W.widen (k := 0) (n := 0) (Nat.le_of_ble_eq_true rfl) (Nat.le_of_ble_eq_true rfl) ?_
    obtain ⟨f1, g1⟩ := u_52
    have hw : okp f f1 (st pp) (st (pp + 1) + le (pp + 1)) := hw_52
    have hP : va_P (dC, dI) vwCl [(o, .inr (1, [.ref oP, .int (nI n), .ref oA, .ref oL, .ref oR, .int (nI ru), .int (nI me), .long (lN mp), .int (nI gh)])), (oP, .inl (cJ, C, .inr (.inl f1))), (oA, .inl (cJ, (C / 2), .inr (.inl g1))), (oL, .inr (0, [.ref oS, .ref oN, .int (nI ct), .int (nI ht)])), (oS, .inl (cI, M, .inl (fun j => nI (st j)))), (oN, .inl (cI, M, .inl (fun j => nI (le j))))] H := ct_Psub hP [3, 4, 5, 0, 1, 2] rfl
    have hD : va_D A [(o, .inr (1, [.ref oP, .int (nI n), .ref oA, .ref oL, .ref oR, .int (nI ru), .int (nI me), .long (lN mp), .int (nI gh)])), (oP, .inl (cJ, C, .inr (.inl f1))), (oA, .inl (cJ, (C / 2), .inr (.inl g1))), (oL, .inr (0, [.ref oS, .ref oN, .int (nI ct), .int (nI ht)])), (oS, .inl (cI, M, .inl (fun j => nI (st j)))), (oN, .inl (cI, M, .inl (fun j => nI (le j))))] := hD.sub [3, 4, 5, 0, 1, 2] (by decide) rfl
    refine lv_goto (tgt := 66) hx hb dX1_mergeAt_55 (by decide) ?_
    refine lv_aload_n hx hb dX1_mergeAt_66 rfl (lv_at hl 3 rfl) ?_
    refine va_get (D := (dC, dI)) (ci := 1) (v := .ref oL) (C := RX1) (T := TX1) (N := 9) hx hb hts hin_1 hown hK hP 0 rfl rfl 3 (by decide) k_1 (fun _ h9 => h9) rfl dX1_mergeAt_67 ?_
    refine lv_iload_n hx hb dX1_mergeAt_70 rfl (lv_at hl 4 rfl) ?_
    refine call_VN_V (As := [.int (nI pp)]) (rest := []) (wr := [(o, .inr (1, [.ref oP, .int (nI n), .ref oA, .ref oL, .ref oR, .int (nI ru), .int (nI me), .long (lN mp), .int (nI gh)])), (oP, .inl (cJ, C, .inr (.inl f1))), (oA, .inl (cJ, (C / 2), .inr (.inl g1)))]) ⟨hx, hb, hml, hown, hts⟩ (c_X0_join l dC dI cJ cI oL oS oN M ct ht pp st le hp hM hM2) (⟨va_cnB (host := "PairSorter") 1 hts gX1_mergeAt_X0_join_n159 rfl rfl rfl (hN _ (by decide +kernel)) (hts (.initialized RX0) (by decide +kernel)) (by decide +kernel) ⟨Nat.le_of_ble_eq_true rfl, Nat.le_of_ble_eq_true rfl⟩, hts (.instanceMethod yX0_join) (by decide +kernel), hts (.selects RX0 yX0_join yX0_join) (by decide +kernel)⟩) hP hD hK hN hS hA [3, 4, 5] [0, 1, 2] [0, 1] rfl rfl rfl (by decide) (by decide) (by decide) 0 0 rfl rfl rfl rfl hl.1 rfl (Nat.le_of_ble_eq_true rfl) dX1_mergeAt_71 (Nat.le_of_ble_eq_true rfl) (Nat.le_of_ble_eq_true rfl) (fun u_71 H locs hw_71 hP hD hK1 hS => ?_)
    refine W.widen (k := 0) (n := 0) (Nat.le_of_ble_eq_true rfl) (Nat.le_of_ble_eq_true rfl) ?_
    have hP : va_P (dC, dI) vwCl [(o, .inr (1, [.ref oP, .int (nI n), .ref oA, .ref oL, .ref oR, .int (nI ru), .int (nI me), .long (lN mp), .int (nI gh)])), (oP, .inl (cJ, C, .inr (.inl f1))), (oA, .inl (cJ, (C / 2), .inr (.inl g1))), (oL, .inr (0, [.ref oS, .ref oN, .int (nI (ct - 1)), .int (nI ht)])), (oS, .inl (cI, M, .inl (fun j => nI ((shf st (pp + 1) (ct - 1)) j)))), (oN, .inl (cI, M, .inl (fun j => nI ((jn le ct pp) j))))] H := ct_Psub hP [0, 1, 2, 3, 4, 5] rfl
    have hD : va_D A [(o, .inr (1, [.ref oP, .int (nI n), .ref oA, .ref oL, .ref oR, .int (nI ru), .int (nI me), .long (lN mp), .int (nI gh)])), (oP, .inl (cJ, C, .inr (.inl f1))), (oA, .inl (cJ, (C / 2), .inr (.inl g1))), (oL, .inr (0, [.ref oS, .ref oN, .int (nI (ct - 1)), .int (nI ht)])), (oS, .inl (cI, M, .inl (fun j => nI ((shf st (pp + 1) (ct - 1)) j)))), (oN, .inl (cI, M, .inl (fun j => nI ((jn le ct pp) j))))] := hD.sub [0, 1, 2, 3, 4, 5] (by decide) rfl
    refine lv_aload_n hx hb dX1_mergeAt_74 rfl (lv_at hl 3 rfl) ?_
    refine lv_dup hx hb dX1_mergeAt_75 rfl ?_
    refine va_get (D := (dC, dI)) (ci := 1) (v := .int (nI me)) (C := RX1) (T := TX1) (N := 9) hx hb hts hin_1 hown hK hP 0 rfl rfl 6 (by decide) k_4 (fun _ h9 => h9) rfl dX1_mergeAt_76 ?_
    refine lv_iconst (v := nI 1) hx hb dX1_mergeAt_79 (by decide) ?_
    refine xr_iadd hx hb dX1_mergeAt_80 ?_
    refine va_put (D := (dC, dI)) (ci := 1) (v := .int (nI (me + 1))) (ty := .int) (C := RX1) (T := TX1) (N := 9) hx hb hts hin_1 tyX1 tyX1_ok nmX1 hown hK hP hD hS 0 rfl rfl 6 (by decide) k_4 (fun _ h9 => h9) rfl (by decide +kernel) rfl rfl (Nat.le_of_ble_eq_true rfl) dX1_mergeAt_81 (fun H locs hP hD hS => ?_)
    have hP : va_P (dC, dI) vwCl [(o, .inr (1, [.ref oP, .int (nI n), .ref oA, .ref oL, .ref oR, .int (nI ru), .int (nI (me + 1)), .long (lN mp), .int (nI gh)])), (oP, .inl (cJ, C, .inr (.inl f1))), (oA, .inl (cJ, (C / 2), .inr (.inl g1))), (oL, .inr (0, [.ref oS, .ref oN, .int (nI (ct - 1)), .int (nI ht)])), (oS, .inl (cI, M, .inl (fun j => nI ((shf st (pp + 1) (ct - 1)) j)))), (oN, .inl (cI, M, .inl (fun j => nI ((jn le ct pp) j))))] H := hP
    have hD : va_D A [(o, .inr (1, [.ref oP, .int (nI n), .ref oA, .ref oL, .ref oR, .int (nI ru), .int (nI (me + 1)), .long (lN mp), .int (nI gh)])), (oP, .inl (cJ, C, .inr (.inl f1))), (oA, .inl (cJ, (C / 2), .inr (.inl g1))), (oL, .inr (0, [.ref oS, .ref oN, .int (nI (ct - 1)), .int (nI ht)])), (oS, .inl (cI, M, .inl (fun j => nI ((shf st (pp + 1) (ct - 1)) j)))), (oN, .inl (cI, M, .inl (fun j => nI ((jn le ct pp) j))))] := hD
    refine lv_aload_n hx hb dX1_mergeAt_84 rfl (lv_at hl 3 rfl) ?_
    refine lv_dup hx hb dX1_mergeAt_85 rfl ?_
    refine va_get (D := (dC, dI)) (ci := 1) (v := .long (lN mp)) (C := RX1) (T := TX1) (N := 9) hx hb hts hin_1 hown hK hP 0 rfl rfl 7 (by decide) k_5 (fun _ h9 => h9) rfl dX1_mergeAt_86 ?_
    refine lv_iload hx hb dX1_mergeAt_89 (lv_at hl 0 rfl) ?_
    refine lv_iload_n hx hb dX1_mergeAt_91 rfl (lv_at hl 2 rfl) ?_
    refine xr_isub hx hb dX1_mergeAt_92 (by omega) ?_
    refine lv_i2l hx hb dX1_mergeAt_93 rfl ?_
    refine xr_topl (y := lN (le pp + le (pp + 1))) ((nI_l (by omega)).trans (by rw [show st (pp + 1) + le (pp + 1) - st pp = le pp + le (pp + 1) by omega])) ?_
    refine lv_ladd hx hb dX1_mergeAt_94 ?_
    refine xr_topl (y := lN (mp + (le pp + le (pp + 1)))) (lN_add _ _) ?_
    refine va_put (D := (dC, dI)) (ci := 1) (v := .long (lN (mp + (le pp + le (pp + 1))))) (ty := .long) (C := RX1) (T := TX1) (N := 9) hx hb hts hin_1 tyX1 tyX1_ok nmX1 hown hK hP hD hS 0 rfl rfl 7 (by decide) k_5 (fun _ h9 => h9) rfl (by decide +kernel) rfl rfl (Nat.le_of_ble_eq_true rfl) dX1_mergeAt_95 (fun H locs hP hD hS => ?_)
    have hP : va_P (dC, dI) vwCl [(o, .inr (1, [.ref oP, .int (nI n), .ref oA, .ref oL, .ref oR, .int (nI ru), .int (nI (me + 1)), .long (lN (mp + (le pp + le (pp + 1)))), .int (nI gh)])), (oP, .inl (cJ, C, .inr (.inl f1))), (oA, .inl (cJ, (C / 2), .inr (.inl g1))), (oL, .inr (0, [.ref oS, .ref oN, .int (nI (ct - 1)), .int (nI ht)])), (oS, .inl (cI, M, .inl (fun j => nI ((shf st (pp + 1) (ct - 1)) j)))), (oN, .inl (cI, M, .inl (fun j => nI ((jn le ct pp) j))))] H := hP
    have hD : va_D A [(o, .inr (1, [.ref oP, .int (nI n), .ref oA, .ref oL, .ref oR, .int (nI ru), .int (nI (me + 1)), .long (lN (mp + (le pp + le (pp + 1)))), .int (nI gh)])), (oP, .inl (cJ, C, .inr (.inl f1))), (oA, .inl (cJ, (C / 2), .inr (.inl g1))), (oL, .inr (0, [.ref oS, .ref oN, .int (nI (ct - 1)), .int (nI ht)])), (oS, .inl (cI, M, .inl (fun j => nI ((shf st (pp + 1) (ct - 1)) j)))), (oN, .inl (cI, M, .inl (fun j => nI ((jn le ct pp) j))))] := hD
    exact hret (f1, g1) _ _ _ _ _ _ (by rw [show st pp + (le pp + le (pp + 1)) = st (pp + 1) + le (pp + 1) by omega]; exact hw) hP hK hD hS (Nat.le_of_ble_eq_true rfl) (Nat.le_of_ble_eq_true rfl) dX1_mergeAt_98
abbrev rmX1_bringInOrder : Room := { frames := 3, cells := 0, slots := 0, locals := 79 }
set_option maxRecDepth 100000 in
set_option maxHeartbeats 4000000 in
theorem c_X1_bringInOrder (l : Launch) (dC : Nat → ClassId) (dI : Nat → Nat → Nat) (cJ cI : ClassId) (o oP oA oL oR oS oN C M n ru me mp gh ct ht : Nat) (f g : Nat → Int64) (st le : Nat → Nat) (e1 : Nat) (hM : ct ≤ M) (hM2 : M < 2 ^ 30) (hc : pC st le ct e1) (he : e1 ≤ C) (hC : C ≤ 4096) (hs : pS f st le ct) : CV l yX1_bringInOrder wsX1_bringInOrder rmX1_bringInOrder [.ref o] (dC, dI) vwCl (KT cJ cI) [(o, .inr (1, [.ref oP, .int (nI n), .ref oA, .ref oL, .ref oR, .int (nI ru), .int (nI me), .long (lN mp), .int (nI gh)])), (oP, .inl (cJ, C, .inr (.inl f))), (oA, .inl (cJ, (C / 2), .inr (.inl g))), (oL, .inr (0, [.ref oS, .ref oN, .int (nI ct), .int (nI ht)])), (oS, .inl (cI, M, .inl (fun j => nI (st j)))), (oN, .inl (cI, M, .inl (fun j => nI (le j))))] (S := (Nat → Int64) × (Nat → Int64) × (Nat → Nat)) (fun u => pC u.2.2 (brg ct le me mp).1 (brg ct le me mp).2.1 e1 ∧ pS u.1 u.2.2 (brg ct le me mp).1 (brg ct le me mp).2.1 ∧ (∀ j, e1 ≤ j → u.1 j = f j) ∧ sE ky (sg u.1 0 e1) (sg f 0 e1)) (fun _ => KT cJ cI) (fun u => [(o, .inr (1, [.ref oP, .int (nI n), .ref oA, .ref oL, .ref oR, .int (nI ru), .int (nI ((brg ct le me mp).2.2.1)), .long (lN ((brg ct le me mp).2.2.2)), .int (nI gh)])), (oP, .inl (cJ, C, .inr (.inl u.1))), (oA, .inl (cJ, (C / 2), .inr (.inl u.2.1))), (oL, .inr (0, [.ref oS, .ref oN, .int (nI ((brg ct le me mp).2.1)), .int (nI ht)])), (oS, .inl (cI, M, .inl (fun j => nI (u.2.2 j)))), (oN, .inl (cI, M, .inl (fun j => nI (((brg ct le me mp).1) j))))]) := by
  refine CV.mk (by decide) rfl (Nat.le_of_ble_eq_true rfl) ?_
  intro p e s m args below meth c A Q ls hx hb hml hown hts hin hA hS hP hD hK hN hl hret
  have hl : lv_has ls 2 [(0, .ref o)] := hl
  have hin_0 : ∀ w ∈ u_ws RX0 TX0 4, w ∈ wsX1_bringInOrder := by decide +kernel
  have hin_1 : ∀ w ∈ u_ws RX1 TX1 9, w ∈ wsX1_bringInOrder := by decide +kernel
  have k_1 := hts (Cond.fieldLink RX1 30 "PairSorter" "pile" "LPairSorter$Pile;") (by decide +kernel)
  have k_2 := va_Nw.use (A := args) rfl (hN (Cond.fieldLinkNest RX1 129 "PairSorter$Pile" "count" "I" "PairSorter") (by decide +kernel))
  refine lv_aload_n hx hb dX1_bringInOrder_0 rfl (lv_at hl 0 rfl) ?_
  refine va_get (D := (dC, dI)) (ci := 1) (v := .ref oL) (C := RX1) (T := TX1) (N := 9) hx hb hts hin_1 hown hK hP 0 rfl rfl 3 (by decide) k_1 (fun _ h9 => h9) rfl dX1_bringInOrder_1 ?_
  refine va_getN (D := (dC, dI)) (ci := 0) (v := .int (nI ct)) (C := RX0) (T := TX0) (N := 4) hx hb hts hin_0 hown hK hP 3 rfl rfl 2 (by decide) k_2 (fun _ h9 => h9) rfl dX1_bringInOrder_4 ?_
  refine lv_istore_n (lv' := [(1, .int (nI ct)), (0, .ref o)]) hx hb dX1_bringInOrder_7 rfl hl (by decide) rfl (fun ls hl => ?_)
  have L_o : ∀ (kq : Nat) (f2 g2 : Nat → Int64) (st2 le2 : Nat → Nat) (c2 me2 mp2 : Nat), (pC st2 le2 c2 e1) → (pS f2 st2 le2 c2) → (∀ j, e1 ≤ j → f2 j = f j) → (sE ky (sg f2 0 e1) (sg f 0 e1)) → (brg c2 le2 me2 mp2 = brg ct le me mp) → (c2 ≤ M) → c2 < kq → ∀ (H : Heap) (locs : List Loc) (ls : Array Slot), va_P (dC, dI) vwCl [(o, .inr (1, [.ref oP, .int (nI n), .ref oA, .ref oL, .ref oR, .int (nI ru), .int (nI me2), .long (lN mp2), .int (nI gh)])), (oP, .inl (cJ, C, .inr (.inl f2))), (oA, .inl (cJ, (C / 2), .inr (.inl g2))), (oL, .inr (0, [.ref oS, .ref oN, .int (nI c2), .int (nI ht)])), (oS, .inl (cI, M, .inl (fun j => nI (st2 j)))), (oN, .inl (cI, M, .inl (fun j => nI (le2 j))))] H → va_D A [(o, .inr (1, [.ref oP, .int (nI n), .ref oA, .ref oL, .ref oR, .int (nI ru), .int (nI me2), .long (lN mp2), .int (nI gh)])), (oP, .inl (cJ, C, .inr (.inl f2))), (oA, .inl (cJ, (C / 2), .inr (.inl g2))), (oL, .inr (0, [.ref oS, .ref oN, .int (nI c2), .int (nI ht)])), (oS, .inl (cI, M, .inl (fun j => nI (st2 j)))), (oN, .inl (cI, M, .inl (fun j => nI (le2 j))))] → va_S A s.heap H locs → lv_has ls 2 [(1, .int (nI c2)), (0, .ref o)] → W p l e rmX1_bringInOrder s m args below meth c H locs 0 0 Q (F0 m 8 ls []) := by
    intro kq
    induction kq with
    | zero =>
      intro f2 g2 st2 le2 c2 me2 mp2 hc2 hs2 hxx hE hT hcm hm
      exact absurd hm (Nat.not_lt_zero _)
    | succ kq ih_o =>
      intro f2 g2 st2 le2 c2 me2 mp2 hc2 hs2 hxx hE hT hcm hm H locs ls hP hD hS hl
      have hle : ∀ j, j < c2 → le2 j ≤ 4096 := fun j hj => by have := (hc2.2.2 j hj).2; omega
      refine lv_iload_n hx hb dX1_bringInOrder_8 rfl (lv_at hl 0 rfl) ?_
      refine lv_iconst (v := nI 2) hx hb dX1_bringInOrder_9 (by decide) ?_
      refine xr_icmp_lt (tgt := 70) hx hb dX1_bringInOrder_10 (by decide) (by omega) (by omega) (fun c_10 => ?_) (fun c_10 => ?_)
      · have hnx : nxP le2 c2 = none := by unfold nxP; rw [if_neg (by omega)]
        rw [← hT, brg_n hnx] at hret
        exact hret (f2, g2, st2) _ _ _ _ _ _ (⟨hc2, hs2, hxx, hE⟩) hP hK hD hS (Nat.le_of_ble_eq_true rfl) (Nat.le_of_ble_eq_true rfl) dX1_bringInOrder_70
      · refine lv_aload_n hx hb dX1_bringInOrder_13 rfl (lv_at hl 1 rfl) ?_
        refine va_get (D := (dC, dI)) (ci := 1) (v := .ref oL) (C := RX1) (T := TX1) (N := 9) hx hb hts hin_1 hown hK hP 0 rfl rfl 3 (by decide) k_1 (fun _ h9 => h9) rfl dX1_bringInOrder_14 ?_
        refine call_VN_I (As := []) (rest := []) (wr := [(o, .inr (1, [.ref oP, .int (nI n), .ref oA, .ref oL, .ref oR, .int (nI ru), .int (nI me2), .long (lN mp2), .int (nI gh)])), (oP, .inl (cJ, C, .inr (.inl f2))), (oA, .inl (cJ, (C / 2), .inr (.inl g2))), (oS, .inl (cI, M, .inl (fun j => nI (st2 j))))]) ⟨hx, hb, hml, hown, hts⟩ (c_X0_isTooFlat l dC dI cJ cI oL oS oN M c2 ht le2 hcm hM2 hle) (⟨va_cnB (host := "PairSorter") 0 hts gX1_bringInOrder_X0_isTooFlat_n132 rfl rfl rfl (hN _ (by decide +kernel)) (hts (.initialized RX0) (by decide +kernel)) (by decide +kernel) ⟨Nat.le_of_ble_eq_true rfl, Nat.le_of_ble_eq_true rfl⟩, hts (.instanceMethod yX0_isTooFlat) (by decide +kernel), hts (.selects RX0 yX0_isTooFlat yX0_isTooFlat) (by decide +kernel)⟩) hP hD hK hN hS hA [3, 5] [0, 1, 2, 4] [0, 1] rfl rfl rfl (by decide) (by decide) (by decide) 0 0 rfl rfl rfl rfl hl.1 rfl (Nat.le_of_ble_eq_true rfl) dX1_bringInOrder_17 (Nat.le_of_ble_eq_true rfl) (Nat.le_of_ble_eq_true rfl) (fun r_17 u_17 H locs hw_17 hP hD hK1 hS => ?_)
        refine W.widen (k := 0) (n := 0) (Nat.le_of_ble_eq_true rfl) (Nat.le_of_ble_eq_true rfl) ?_
        have hP : va_P (dC, dI) vwCl [(o, .inr (1, [.ref oP, .int (nI n), .ref oA, .ref oL, .ref oR, .int (nI ru), .int (nI me2), .long (lN mp2), .int (nI gh)])), (oP, .inl (cJ, C, .inr (.inl f2))), (oA, .inl (cJ, (C / 2), .inr (.inl g2))), (oL, .inr (0, [.ref oS, .ref oN, .int (nI c2), .int (nI ht)])), (oS, .inl (cI, M, .inl (fun j => nI (st2 j)))), (oN, .inl (cI, M, .inl (fun j => nI (le2 j))))] H := ct_Psub hP [0, 1, 2, 4, 3, 5] rfl
        have hD : va_D A [(o, .inr (1, [.ref oP, .int (nI n), .ref oA, .ref oL, .ref oR, .int (nI ru), .int (nI me2), .long (lN mp2), .int (nI gh)])), (oP, .inl (cJ, C, .inr (.inl f2))), (oA, .inl (cJ, (C / 2), .inr (.inl g2))), (oL, .inr (0, [.ref oS, .ref oN, .int (nI c2), .int (nI ht)])), (oS, .inl (cI, M, .inl (fun j => nI (st2 j)))), (oN, .inl (cI, M, .inl (fun j => nI (le2 j))))] := hD.sub [0, 1, 2, 4, 3, 5] (by decide) rfl
        rcases hw_17 with ⟨rfl, hf⟩ | ⟨rfl, hf⟩
        · refine xr_if_eq (tgt := 37) hx hb dX1_bringInOrder_20 (by decide) (by decide) (fun c9 => absurd c9 (by decide)) (fun _ => ?_)
          refine lv_aload_n hx hb dX1_bringInOrder_23 rfl (lv_at hl 1 rfl) ?_
          refine lv_aload_n hx hb dX1_bringInOrder_24 rfl (lv_at hl 1 rfl) ?_
          refine va_get (D := (dC, dI)) (ci := 1) (v := .ref oL) (C := RX1) (T := TX1) (N := 9) hx hb hts hin_1 hown hK hP 0 rfl rfl 3 (by decide) k_1 (fun _ h9 => h9) rfl dX1_bringInOrder_25 ?_
          refine call_VN_I (As := []) (rest := [.ref o]) (wr := [(o, .inr (1, [.ref oP, .int (nI n), .ref oA, .ref oL, .ref oR, .int (nI ru), .int (nI me2), .long (lN mp2), .int (nI gh)])), (oP, .inl (cJ, C, .inr (.inl f2))), (oA, .inl (cJ, (C / 2), .inr (.inl g2))), (oS, .inl (cI, M, .inl (fun j => nI (st2 j))))]) ⟨hx, hb, hml, hown, hts⟩ (c_X0_placeBelowShorterNeighbour l dC dI cJ cI oL oS oN M c2 ht le2 c_10 hcm hM2 hle) (⟨va_cnB (host := "PairSorter") 0 hts gX1_bringInOrder_X0_placeBelowShorterNeighbour_n136 rfl rfl rfl (hN _ (by decide +kernel)) (hts (.initialized RX0) (by decide +kernel)) (by decide +kernel) ⟨Nat.le_of_ble_eq_true rfl, Nat.le_of_ble_eq_true rfl⟩, hts (.instanceMethod yX0_placeBelowShorterNeighbour) (by decide +kernel), hts (.selects RX0 yX0_placeBelowShorterNeighbour yX0_placeBelowShorterNeighbour) (by decide +kernel)⟩) hP hD hK hN hS hA [3, 5] [0, 1, 2, 4] [0, 1] rfl rfl rfl (by decide) (by decide) (by decide) 0 0 rfl rfl rfl rfl hl.1 rfl (Nat.le_of_ble_eq_true rfl) dX1_bringInOrder_28 (Nat.le_of_ble_eq_true rfl) (Nat.le_of_ble_eq_true rfl) (fun r_28 u_28 H locs hw_28 hP hD hK1 hS => ?_)
          refine W.widen (k := 0) (n := 0) (Nat.le_of_ble_eq_true rfl) (Nat.le_of_ble_eq_true rfl) ?_
          have hP : va_P (dC, dI) vwCl [(o, .inr (1, [.ref oP, .int (nI n), .ref oA, .ref oL, .ref oR, .int (nI ru), .int (nI me2), .long (lN mp2), .int (nI gh)])), (oP, .inl (cJ, C, .inr (.inl f2))), (oA, .inl (cJ, (C / 2), .inr (.inl g2))), (oL, .inr (0, [.ref oS, .ref oN, .int (nI c2), .int (nI ht)])), (oS, .inl (cI, M, .inl (fun j => nI (st2 j)))), (oN, .inl (cI, M, .inl (fun j => nI (le2 j))))] H := ct_Psub hP [0, 1, 2, 4, 3, 5] rfl
          have hD : va_D A [(o, .inr (1, [.ref oP, .int (nI n), .ref oA, .ref oL, .ref oR, .int (nI ru), .int (nI me2), .long (lN mp2), .int (nI gh)])), (oP, .inl (cJ, C, .inr (.inl f2))), (oA, .inl (cJ, (C / 2), .inr (.inl g2))), (oL, .inr (0, [.ref oS, .ref oN, .int (nI c2), .int (nI ht)])), (oS, .inl (cI, M, .inl (fun j => nI (st2 j)))), (oN, .inl (cI, M, .inl (fun j => nI (le2 j))))] := hD.sub [0, 1, 2, 4, 3, 5] (by decide) rfl
          refine xr_top (y := nI (lwP le2 c2)) (hw_28.elim (fun h => by unfold lwP; rw [h.1, if_pos h.2]) (fun h => by unfold lwP; rw [h.1, if_neg h.2])) ?_
          have hp := (lwP_in (le := le2) c_10).1
          have hnx : nxP le2 c2 = some (lwP le2 c2) := by unfold nxP; rw [if_pos c_10, if_pos (tFb_iff.mpr hf)]
          refine call_V_V (As := [.int (nI (lwP le2 c2))]) (rest := []) (wr := []) ⟨hx, hb, hml, hown, hts⟩ (c_X1_mergeAt l dC dI cJ cI o oP oA oL oR oS oN C M n ru me2 mp2 gh c2 ht f2 g2 st2 le2 (lwP le2 c2) e1 hp hcm hM2 hc2 he hC hs2) (cwV 1 hts gX1_bringInOrder_X1_mergeAt rfl rfl rfl (by decide +kernel) ⟨Nat.le_of_ble_eq_true rfl, Nat.le_of_ble_eq_true rfl⟩) hP hD hK hN hS hA [0, 1, 2, 3, 4, 5] [] [0, 1] rfl rfl rfl (by decide) (by decide) (by decide) 0 1 rfl rfl rfl rfl hl.1 rfl (Nat.le_of_ble_eq_true rfl) dX1_bringInOrder_31 (Nat.le_of_ble_eq_true rfl) (Nat.le_of_ble_eq_true rfl) (fun u_31 H locs hw_31 hP hD hK1 hS => ?_)
          refine W.widen (k := 0) (n := 0) (Nat.le_of_ble_eq_true rfl) (Nat.le_of_ble_eq_true rfl) ?_
          obtain ⟨f3, g3⟩ := u_31
          have hw : okp f2 f3 (st2 (lwP le2 c2)) (st2 (lwP le2 c2) + (le2 (lwP le2 c2) + le2 ((lwP le2 c2) + 1))) := hw_31
          have hkp := mrg_keep hp hc2 hxx hE hw
          have hP : va_P (dC, dI) vwCl [(o, .inr (1, [.ref oP, .int (nI n), .ref oA, .ref oL, .ref oR, .int (nI ru), .int (nI (me2 + 1)), .long (lN (mp2 + (le2 (lwP le2 c2) + le2 ((lwP le2 c2) + 1)))), .int (nI gh)])), (oP, .inl (cJ, C, .inr (.inl f3))), (oA, .inl (cJ, (C / 2), .inr (.inl g3))), (oL, .inr (0, [.ref oS, .ref oN, .int (nI (c2 - 1)), .int (nI ht)])), (oS, .inl (cI, M, .inl (fun j => nI ((shf st2 ((lwP le2 c2) + 1) (c2 - 1)) j)))), (oN, .inl (cI, M, .inl (fun j => nI ((jn le2 c2 (lwP le2 c2)) j))))] H := ct_Psub hP [0, 1, 2, 3, 4, 5] rfl
          have hD : va_D A [(o, .inr (1, [.ref oP, .int (nI n), .ref oA, .ref oL, .ref oR, .int (nI ru), .int (nI (me2 + 1)), .long (lN (mp2 + (le2 (lwP le2 c2) + le2 ((lwP le2 c2) + 1)))), .int (nI gh)])), (oP, .inl (cJ, C, .inr (.inl f3))), (oA, .inl (cJ, (C / 2), .inr (.inl g3))), (oL, .inr (0, [.ref oS, .ref oN, .int (nI (c2 - 1)), .int (nI ht)])), (oS, .inl (cI, M, .inl (fun j => nI ((shf st2 ((lwP le2 c2) + 1) (c2 - 1)) j)))), (oN, .inl (cI, M, .inl (fun j => nI ((jn le2 c2 (lwP le2 c2)) j))))] := hD.sub [0, 1, 2, 3, 4, 5] (by decide) rfl
          refine lv_goto (tgt := 64) hx hb dX1_bringInOrder_34 (by decide) ?_
          refine lv_iinc (v := nI (c2 - 1)) (lv' := [(1, .int (nI (c2 - 1))), (0, .ref o)]) hx hb dX1_bringInOrder_64 hl (k := 0) rfl (sb_m1 (by omega)) (by decide) rfl (fun ls hl => ?_)
          refine lv_goto (tgt := 8) hx hb dX1_bringInOrder_67 (by decide) ?_
          exact ih_o f3 g3 (shf st2 ((lwP le2 c2) + 1) (c2 - 1)) (jn le2 c2 (lwP le2 c2)) (c2 - 1) (me2 + 1) (mp2 + (le2 (lwP le2 c2) + le2 ((lwP le2 c2) + 1))) (pC_jn hp hc2) (pS_jn hp hc2 hs2 hw) hkp.1 hkp.2 (by rw [← hT, brg_s hnx]) (by omega) (by omega) _ _ _ hP hD hS (lv_sub hl [0, 1] rfl)
        · refine xr_if_eq (tgt := 37) hx hb dX1_bringInOrder_20 (by decide) (by decide) (fun _ => ?_) (fun c9 => absurd c9 (by decide))
          refine lv_aload_n hx hb dX1_bringInOrder_37 rfl (lv_at hl 1 rfl) ?_
          refine va_get (D := (dC, dI)) (ci := 1) (v := .ref oL) (C := RX1) (T := TX1) (N := 9) hx hb hts hin_1 hown hK hP 0 rfl rfl 3 (by decide) k_1 (fun _ h9 => h9) rfl dX1_bringInOrder_38 ?_
          refine call_VN_I (As := []) (rest := []) (wr := [(o, .inr (1, [.ref oP, .int (nI n), .ref oA, .ref oL, .ref oR, .int (nI ru), .int (nI me2), .long (lN mp2), .int (nI gh)])), (oP, .inl (cJ, C, .inr (.inl f2))), (oA, .inl (cJ, (C / 2), .inr (.inl g2))), (oS, .inl (cI, M, .inl (fun j => nI (st2 j))))]) ⟨hx, hb, hml, hown, hts⟩ (c_X0_isTopTooLong l dC dI cJ cI oL oS oN M c2 ht le2 hcm hM2 hle) (⟨va_cnB (host := "PairSorter") 0 hts gX1_bringInOrder_X0_isTopTooLong_n143 rfl rfl rfl (hN _ (by decide +kernel)) (hts (.initialized RX0) (by decide +kernel)) (by decide +kernel) ⟨Nat.le_of_ble_eq_true rfl, Nat.le_of_ble_eq_true rfl⟩, hts (.instanceMethod yX0_isTopTooLong) (by decide +kernel), hts (.selects RX0 yX0_isTopTooLong yX0_isTopTooLong) (by decide +kernel)⟩) hP hD hK hN hS hA [3, 5] [0, 1, 2, 4] [0, 1] rfl rfl rfl (by decide) (by decide) (by decide) 0 0 rfl rfl rfl rfl hl.1 rfl (Nat.le_of_ble_eq_true rfl) dX1_bringInOrder_41 (Nat.le_of_ble_eq_true rfl) (Nat.le_of_ble_eq_true rfl) (fun r_41 u_41 H locs hw_41 hP hD hK1 hS => ?_)
          refine W.widen (k := 0) (n := 0) (Nat.le_of_ble_eq_true rfl) (Nat.le_of_ble_eq_true rfl) ?_
          have hP : va_P (dC, dI) vwCl [(o, .inr (1, [.ref oP, .int (nI n), .ref oA, .ref oL, .ref oR, .int (nI ru), .int (nI me2), .long (lN mp2), .int (nI gh)])), (oP, .inl (cJ, C, .inr (.inl f2))), (oA, .inl (cJ, (C / 2), .inr (.inl g2))), (oL, .inr (0, [.ref oS, .ref oN, .int (nI c2), .int (nI ht)])), (oS, .inl (cI, M, .inl (fun j => nI (st2 j)))), (oN, .inl (cI, M, .inl (fun j => nI (le2 j))))] H := ct_Psub hP [0, 1, 2, 4, 3, 5] rfl
          have hD : va_D A [(o, .inr (1, [.ref oP, .int (nI n), .ref oA, .ref oL, .ref oR, .int (nI ru), .int (nI me2), .long (lN mp2), .int (nI gh)])), (oP, .inl (cJ, C, .inr (.inl f2))), (oA, .inl (cJ, (C / 2), .inr (.inl g2))), (oL, .inr (0, [.ref oS, .ref oN, .int (nI c2), .int (nI ht)])), (oS, .inl (cI, M, .inl (fun j => nI (st2 j)))), (oN, .inl (cI, M, .inl (fun j => nI (le2 j))))] := hD.sub [0, 1, 2, 4, 3, 5] (by decide) rfl
          rcases hw_41 with ⟨rfl, hf2⟩ | ⟨rfl, hf2⟩
          · refine xr_if_eq (tgt := 63) hx hb dX1_bringInOrder_44 (by decide) (by decide) (fun c9 => absurd c9 (by decide)) (fun _ => ?_)
            refine lv_aload_n hx hb dX1_bringInOrder_47 rfl (lv_at hl 1 rfl) ?_
            refine lv_aload_n hx hb dX1_bringInOrder_48 rfl (lv_at hl 1 rfl) ?_
            refine va_get (D := (dC, dI)) (ci := 1) (v := .ref oL) (C := RX1) (T := TX1) (N := 9) hx hb hts hin_1 hown hK hP 0 rfl rfl 3 (by decide) k_1 (fun _ h9 => h9) rfl dX1_bringInOrder_49 ?_
            refine va_getN (D := (dC, dI)) (ci := 0) (v := .int (nI c2)) (C := RX0) (T := TX0) (N := 4) hx hb hts hin_0 hown hK hP 3 rfl rfl 2 (by decide) k_2 (fun _ h9 => h9) rfl dX1_bringInOrder_52 ?_
            refine lv_iconst (v := nI 2) hx hb dX1_bringInOrder_55 (by decide) ?_
            refine xr_isub hx hb dX1_bringInOrder_56 (by omega) ?_
            have hp : c2 - 2 + 1 < c2 := by omega
            have hnx : nxP le2 c2 = some (c2 - 2) := by unfold nxP; rw [if_pos c_10, if_neg (fun q => hf (tFb_iff.mp q)), if_pos hf2.2]
            refine call_V_V (As := [.int (nI (c2 - 2))]) (rest := []) (wr := []) ⟨hx, hb, hml, hown, hts⟩ (c_X1_mergeAt l dC dI cJ cI o oP oA oL oR oS oN C M n ru me2 mp2 gh c2 ht f2 g2 st2 le2 (c2 - 2) e1 hp hcm hM2 hc2 he hC hs2) (cwV 1 hts gX1_bringInOrder_X1_mergeAt rfl rfl rfl (by decide +kernel) ⟨Nat.le_of_ble_eq_true rfl, Nat.le_of_ble_eq_true rfl⟩) hP hD hK hN hS hA [0, 1, 2, 3, 4, 5] [] [0, 1] rfl rfl rfl (by decide) (by decide) (by decide) 0 1 rfl rfl rfl rfl hl.1 rfl (Nat.le_of_ble_eq_true rfl) dX1_bringInOrder_57 (Nat.le_of_ble_eq_true rfl) (Nat.le_of_ble_eq_true rfl) (fun u_57 H locs hw_57 hP hD hK1 hS => ?_)
            refine W.widen (k := 0) (n := 0) (Nat.le_of_ble_eq_true rfl) (Nat.le_of_ble_eq_true rfl) ?_
            obtain ⟨f3, g3⟩ := u_57
            have hw : okp f2 f3 (st2 (c2 - 2)) (st2 (c2 - 2) + (le2 (c2 - 2) + le2 ((c2 - 2) + 1))) := hw_57
            have hkp := mrg_keep hp hc2 hxx hE hw
            have hP : va_P (dC, dI) vwCl [(o, .inr (1, [.ref oP, .int (nI n), .ref oA, .ref oL, .ref oR, .int (nI ru), .int (nI (me2 + 1)), .long (lN (mp2 + (le2 (c2 - 2) + le2 ((c2 - 2) + 1)))), .int (nI gh)])), (oP, .inl (cJ, C, .inr (.inl f3))), (oA, .inl (cJ, (C / 2), .inr (.inl g3))), (oL, .inr (0, [.ref oS, .ref oN, .int (nI (c2 - 1)), .int (nI ht)])), (oS, .inl (cI, M, .inl (fun j => nI ((shf st2 ((c2 - 2) + 1) (c2 - 1)) j)))), (oN, .inl (cI, M, .inl (fun j => nI ((jn le2 c2 (c2 - 2)) j))))] H := ct_Psub hP [0, 1, 2, 3, 4, 5] rfl
            have hD : va_D A [(o, .inr (1, [.ref oP, .int (nI n), .ref oA, .ref oL, .ref oR, .int (nI ru), .int (nI (me2 + 1)), .long (lN (mp2 + (le2 (c2 - 2) + le2 ((c2 - 2) + 1)))), .int (nI gh)])), (oP, .inl (cJ, C, .inr (.inl f3))), (oA, .inl (cJ, (C / 2), .inr (.inl g3))), (oL, .inr (0, [.ref oS, .ref oN, .int (nI (c2 - 1)), .int (nI ht)])), (oS, .inl (cI, M, .inl (fun j => nI ((shf st2 ((c2 - 2) + 1) (c2 - 1)) j)))), (oN, .inl (cI, M, .inl (fun j => nI ((jn le2 c2 (c2 - 2)) j))))] := hD.sub [0, 1, 2, 3, 4, 5] (by decide) rfl
            refine lv_goto (tgt := 64) hx hb dX1_bringInOrder_60 (by decide) ?_
            refine lv_iinc (v := nI (c2 - 1)) (lv' := [(1, .int (nI (c2 - 1))), (0, .ref o)]) hx hb dX1_bringInOrder_64 hl (k := 0) rfl (sb_m1 (by omega)) (by decide) rfl (fun ls hl => ?_)
            refine lv_goto (tgt := 8) hx hb dX1_bringInOrder_67 (by decide) ?_
            exact ih_o f3 g3 (shf st2 ((c2 - 2) + 1) (c2 - 1)) (jn le2 c2 (c2 - 2)) (c2 - 1) (me2 + 1) (mp2 + (le2 (c2 - 2) + le2 ((c2 - 2) + 1))) (pC_jn hp hc2) (pS_jn hp hc2 hs2 hw) hkp.1 hkp.2 (by rw [← hT, brg_s hnx]) (by omega) (by omega) _ _ _ hP hD hS (lv_sub hl [0, 1] rfl)
          · refine xr_if_eq (tgt := 63) hx hb dX1_bringInOrder_44 (by decide) (by decide) (fun _ => ?_) (fun c9 => absurd c9 (by decide))
            have hnx : nxP le2 c2 = none := by unfold nxP; rw [if_pos c_10, if_neg (fun q => hf (tFb_iff.mp q)), if_neg (fun q => hf2 ⟨c_10, q⟩)]
            rw [← hT, brg_n hnx] at hret
            exact hret (f2, g2, st2) _ _ _ _ _ _ (⟨hc2, hs2, hxx, hE⟩) hP hK hD hS (Nat.le_of_ble_eq_true rfl) (Nat.le_of_ble_eq_true rfl) dX1_bringInOrder_63
  exact L_o (_ + 1) f g st le ct me mp hc hs (fun _ _ => rfl) (sE_refl _) rfl hM (Nat.lt_succ_self _) _ _ _ hP hD hS (lv_sub hl [0, 1] rfl)
abbrev rmX1_mergeWhatIsLeft : Room := { frames := 3, cells := 0, slots := 0, locals := 79 }
set_option maxRecDepth 100000 in
set_option maxHeartbeats 4000000 in
theorem c_X1_mergeWhatIsLeft (l : Launch) (dC : Nat → ClassId) (dI : Nat → Nat → Nat) (cJ cI : ClassId) (o oP oA oL oR oS oN C M n ru me mp gh ct ht : Nat) (f g : Nat → Int64) (st le : Nat → Nat) (e1 : Nat) (hct : 0 < ct) (hM : ct ≤ M) (hM2 : M < 2 ^ 30) (hc : pC st le ct e1) (he : e1 ≤ C) (hC : C ≤ 4096) (hs : pS f st le ct) : CV l yX1_mergeWhatIsLeft wsX1_mergeWhatIsLeft rmX1_mergeWhatIsLeft [.ref o] (dC, dI) vwCl (KT cJ cI) [(o, .inr (1, [.ref oP, .int (nI n), .ref oA, .ref oL, .ref oR, .int (nI ru), .int (nI me), .long (lN mp), .int (nI gh)])), (oP, .inl (cJ, C, .inr (.inl f))), (oA, .inl (cJ, (C / 2), .inr (.inl g))), (oL, .inr (0, [.ref oS, .ref oN, .int (nI ct), .int (nI ht)])), (oS, .inl (cI, M, .inl (fun j => nI (st j)))), (oN, .inl (cI, M, .inl (fun j => nI (le j))))] (S := (Nat → Int64) × (Nat → Int64) × (Nat → Nat) × (Nat → Nat) × Nat) (fun u => so ky u.1 0 e1 ∧ (∀ j, e1 ≤ j → u.1 j = f j) ∧ sE ky (sg u.1 0 e1) (sg f 0 e1)) (fun _ => KT cJ cI) (fun u => [(o, .inr (1, [.ref oP, .int (nI n), .ref oA, .ref oL, .ref oR, .int (nI ru), .int (nI ((fnl ct le me mp).1)), .long (lN ((fnl ct le me mp).2)), .int (nI gh)])), (oP, .inl (cJ, C, .inr (.inl u.1))), (oA, .inl (cJ, (C / 2), .inr (.inl u.2.1))), (oL, .inr (0, [.ref oS, .ref oN, .int (nI u.2.2.2.2), .int (nI ht)])), (oS, .inl (cI, M, .inl (fun j => nI (u.2.2.1 j)))), (oN, .inl (cI, M, .inl (fun j => nI (u.2.2.2.1 j))))]) := by
  refine CV.mk (by decide) rfl (Nat.le_of_ble_eq_true rfl) ?_
  intro p e s m args below meth c A Q ls hx hb hml hown hts hin hA hS hP hD hK hN hl hret
  have hl : lv_has ls 2 [(0, .ref o)] := hl
  have hin_0 : ∀ w ∈ u_ws RX0 TX0 4, w ∈ wsX1_mergeWhatIsLeft := by decide +kernel
  have hin_1 : ∀ w ∈ u_ws RX1 TX1 9, w ∈ wsX1_mergeWhatIsLeft := by decide +kernel
  have k_1 := hts (Cond.fieldLink RX1 30 "PairSorter" "pile" "LPairSorter$Pile;") (by decide +kernel)
  have k_2 := va_Nw.use (A := args) rfl (hN (Cond.fieldLinkNest RX1 129 "PairSorter$Pile" "count" "I" "PairSorter") (by decide +kernel))
  refine lv_aload_n hx hb dX1_mergeWhatIsLeft_0 rfl (lv_at hl 0 rfl) ?_
  refine va_get (D := (dC, dI)) (ci := 1) (v := .ref oL) (C := RX1) (T := TX1) (N := 9) hx hb hts hin_1 hown hK hP 0 rfl rfl 3 (by decide) k_1 (fun _ h9 => h9) rfl dX1_mergeWhatIsLeft_1 ?_
  refine va_getN (D := (dC, dI)) (ci := 0) (v := .int (nI ct)) (C := RX0) (T := TX0) (N := 4) hx hb hts hin_0 hown hK hP 3 rfl rfl 2 (by decide) k_2 (fun _ h9 => h9) rfl dX1_mergeWhatIsLeft_4 ?_
  refine lv_istore_n (lv' := [(1, .int (nI ct)), (0, .ref o)]) hx hb dX1_mergeWhatIsLeft_7 rfl hl (by decide) rfl (fun ls hl => ?_)
  have L_w : ∀ (kq : Nat) (f2 g2 : Nat → Int64) (st2 le2 : Nat → Nat) (c2 me2 mp2 : Nat), (pC st2 le2 c2 e1) → (pS f2 st2 le2 c2) → (∀ j, e1 ≤ j → f2 j = f j) → (sE ky (sg f2 0 e1) (sg f 0 e1)) → (fnl c2 le2 me2 mp2 = fnl ct le me mp) → (0 < c2) → (c2 ≤ M) → c2 < kq → ∀ (H : Heap) (locs : List Loc) (ls : Array Slot), va_P (dC, dI) vwCl [(o, .inr (1, [.ref oP, .int (nI n), .ref oA, .ref oL, .ref oR, .int (nI ru), .int (nI me2), .long (lN mp2), .int (nI gh)])), (oP, .inl (cJ, C, .inr (.inl f2))), (oA, .inl (cJ, (C / 2), .inr (.inl g2))), (oL, .inr (0, [.ref oS, .ref oN, .int (nI c2), .int (nI ht)])), (oS, .inl (cI, M, .inl (fun j => nI (st2 j)))), (oN, .inl (cI, M, .inl (fun j => nI (le2 j))))] H → va_D A [(o, .inr (1, [.ref oP, .int (nI n), .ref oA, .ref oL, .ref oR, .int (nI ru), .int (nI me2), .long (lN mp2), .int (nI gh)])), (oP, .inl (cJ, C, .inr (.inl f2))), (oA, .inl (cJ, (C / 2), .inr (.inl g2))), (oL, .inr (0, [.ref oS, .ref oN, .int (nI c2), .int (nI ht)])), (oS, .inl (cI, M, .inl (fun j => nI (st2 j)))), (oN, .inl (cI, M, .inl (fun j => nI (le2 j))))] → va_S A s.heap H locs → lv_has ls 2 [(1, .int (nI c2)), (0, .ref o)] → W p l e rmX1_mergeWhatIsLeft s m args below meth c H locs 0 0 Q (F0 m 8 ls []) := by
    intro kq
    induction kq with
    | zero =>
      intro f2 g2 st2 le2 c2 me2 mp2 hc2 hs2 hxx hE hT hcp hcm hm
      exact absurd hm (Nat.not_lt_zero _)
    | succ kq ih_w =>
      intro f2 g2 st2 le2 c2 me2 mp2 hc2 hs2 hxx hE hT hcp hcm hm H locs ls hP hD hS hl
      have hle : ∀ j, j < c2 → le2 j ≤ 4096 := fun j hj => by have := (hc2.2.2 j hj).2; omega
      refine lv_iload_n hx hb dX1_mergeWhatIsLeft_8 rfl (lv_at hl 0 rfl) ?_
      refine lv_iconst (v := nI 2) hx hb dX1_mergeWhatIsLeft_9 (by decide) ?_
      refine xr_icmp_lt (tgt := 30) hx hb dX1_mergeWhatIsLeft_10 (by decide) (by omega) (by omega) (fun c_10 => ?_) (fun c_10 => ?_)
      · rw [← hT, fnl_n c_10] at hret
        have hc1 : c2 = 1 := by omega
        have hso : so ky f2 0 e1 := by
          have h7 := hc2.2.1 hcp
          have h8 := hs2 0 hcp
          rw [hc1, Nat.sub_self] at h7
          rw [h7.2, h7.1] at h8
          exact h8
        exact hret (f2, g2, st2, le2, c2) _ _ _ _ _ _ (⟨hso, hxx, hE⟩) hP hK hD hS (Nat.le_of_ble_eq_true rfl) (Nat.le_of_ble_eq_true rfl) dX1_mergeWhatIsLeft_30
      · refine lv_aload_n hx hb dX1_mergeWhatIsLeft_13 rfl (lv_at hl 1 rfl) ?_
        refine lv_aload_n hx hb dX1_mergeWhatIsLeft_14 rfl (lv_at hl 1 rfl) ?_
        refine va_get (D := (dC, dI)) (ci := 1) (v := .ref oL) (C := RX1) (T := TX1) (N := 9) hx hb hts hin_1 hown hK hP 0 rfl rfl 3 (by decide) k_1 (fun _ h9 => h9) rfl dX1_mergeWhatIsLeft_15 ?_
        refine call_VN_I (As := []) (rest := [.ref o]) (wr := [(o, .inr (1, [.ref oP, .int (nI n), .ref oA, .ref oL, .ref oR, .int (nI ru), .int (nI me2), .long (lN mp2), .int (nI gh)])), (oP, .inl (cJ, C, .inr (.inl f2))), (oA, .inl (cJ, (C / 2), .inr (.inl g2))), (oS, .inl (cI, M, .inl (fun j => nI (st2 j))))]) ⟨hx, hb, hml, hown, hts⟩ (c_X0_placeBelowShorterNeighbour l dC dI cJ cI oL oS oN M c2 ht le2 c_10 hcm hM2 hle) (⟨va_cnB (host := "PairSorter") 0 hts gX1_mergeWhatIsLeft_X0_placeBelowShorterNeighbour_n136 rfl rfl rfl (hN _ (by decide +kernel)) (hts (.initialized RX0) (by decide +kernel)) (by decide +kernel) ⟨Nat.le_of_ble_eq_true rfl, Nat.le_of_ble_eq_true rfl⟩, hts (.instanceMethod yX0_placeBelowShorterNeighbour) (by decide +kernel), hts (.selects RX0 yX0_placeBelowShorterNeighbour yX0_placeBelowShorterNeighbour) (by decide +kernel)⟩) hP hD hK hN hS hA [3, 5] [0, 1, 2, 4] [0, 1] rfl rfl rfl (by decide) (by decide) (by decide) 0 0 rfl rfl rfl rfl hl.1 rfl (Nat.le_of_ble_eq_true rfl) dX1_mergeWhatIsLeft_18 (Nat.le_of_ble_eq_true rfl) (Nat.le_of_ble_eq_true rfl) (fun r_18 u_18 H locs hw_18 hP hD hK1 hS => ?_)
        refine W.widen (k := 0) (n := 0) (Nat.le_of_ble_eq_true rfl) (Nat.le_of_ble_eq_true rfl) ?_
        have hP : va_P (dC, dI) vwCl [(o, .inr (1, [.ref oP, .int (nI n), .ref oA, .ref oL, .ref oR, .int (nI ru), .int (nI me2), .long (lN mp2), .int (nI gh)])), (oP, .inl (cJ, C, .inr (.inl f2))), (oA, .inl (cJ, (C / 2), .inr (.inl g2))), (oL, .inr (0, [.ref oS, .ref oN, .int (nI c2), .int (nI ht)])), (oS, .inl (cI, M, .inl (fun j => nI (st2 j)))), (oN, .inl (cI, M, .inl (fun j => nI (le2 j))))] H := ct_Psub hP [0, 1, 2, 4, 3, 5] rfl
        have hD : va_D A [(o, .inr (1, [.ref oP, .int (nI n), .ref oA, .ref oL, .ref oR, .int (nI ru), .int (nI me2), .long (lN mp2), .int (nI gh)])), (oP, .inl (cJ, C, .inr (.inl f2))), (oA, .inl (cJ, (C / 2), .inr (.inl g2))), (oL, .inr (0, [.ref oS, .ref oN, .int (nI c2), .int (nI ht)])), (oS, .inl (cI, M, .inl (fun j => nI (st2 j)))), (oN, .inl (cI, M, .inl (fun j => nI (le2 j))))] := hD.sub [0, 1, 2, 4, 3, 5] (by decide) rfl
        refine xr_top (y := nI (lwP le2 c2)) (hw_18.elim (fun h => by unfold lwP; rw [h.1, if_pos h.2]) (fun h => by unfold lwP; rw [h.1, if_neg h.2])) ?_
        have hp := (lwP_in (le := le2) c_10).1
        refine call_V_V (As := [.int (nI (lwP le2 c2))]) (rest := []) (wr := []) ⟨hx, hb, hml, hown, hts⟩ (c_X1_mergeAt l dC dI cJ cI o oP oA oL oR oS oN C M n ru me2 mp2 gh c2 ht f2 g2 st2 le2 (lwP le2 c2) e1 hp hcm hM2 hc2 he hC hs2) (cwV 1 hts gX1_mergeWhatIsLeft_X1_mergeAt rfl rfl rfl (by decide +kernel) ⟨Nat.le_of_ble_eq_true rfl, Nat.le_of_ble_eq_true rfl⟩) hP hD hK hN hS hA [0, 1, 2, 3, 4, 5] [] [0, 1] rfl rfl rfl (by decide) (by decide) (by decide) 0 1 rfl rfl rfl rfl hl.1 rfl (Nat.le_of_ble_eq_true rfl) dX1_mergeWhatIsLeft_21 (Nat.le_of_ble_eq_true rfl) (Nat.le_of_ble_eq_true rfl) (fun u_21 H locs hw_21 hP hD hK1 hS => ?_)
        refine W.widen (k := 0) (n := 0) (Nat.le_of_ble_eq_true rfl) (Nat.le_of_ble_eq_true rfl) ?_
        obtain ⟨f3, g3⟩ := u_21
        have hw : okp f2 f3 (st2 (lwP le2 c2)) (st2 (lwP le2 c2) + (le2 (lwP le2 c2) + le2 ((lwP le2 c2) + 1))) := hw_21
        have hkp := mrg_keep hp hc2 hxx hE hw
        have hP : va_P (dC, dI) vwCl [(o, .inr (1, [.ref oP, .int (nI n), .ref oA, .ref oL, .ref oR, .int (nI ru), .int (nI (me2 + 1)), .long (lN (mp2 + (le2 (lwP le2 c2) + le2 ((lwP le2 c2) + 1)))), .int (nI gh)])), (oP, .inl (cJ, C, .inr (.inl f3))), (oA, .inl (cJ, (C / 2), .inr (.inl g3))), (oL, .inr (0, [.ref oS, .ref oN, .int (nI (c2 - 1)), .int (nI ht)])), (oS, .inl (cI, M, .inl (fun j => nI ((shf st2 ((lwP le2 c2) + 1) (c2 - 1)) j)))), (oN, .inl (cI, M, .inl (fun j => nI ((jn le2 c2 (lwP le2 c2)) j))))] H := ct_Psub hP [0, 1, 2, 3, 4, 5] rfl
        have hD : va_D A [(o, .inr (1, [.ref oP, .int (nI n), .ref oA, .ref oL, .ref oR, .int (nI ru), .int (nI (me2 + 1)), .long (lN (mp2 + (le2 (lwP le2 c2) + le2 ((lwP le2 c2) + 1)))), .int (nI gh)])), (oP, .inl (cJ, C, .inr (.inl f3))), (oA, .inl (cJ, (C / 2), .inr (.inl g3))), (oL, .inr (0, [.ref oS, .ref oN, .int (nI (c2 - 1)), .int (nI ht)])), (oS, .inl (cI, M, .inl (fun j => nI ((shf st2 ((lwP le2 c2) + 1) (c2 - 1)) j)))), (oN, .inl (cI, M, .inl (fun j => nI ((jn le2 c2 (lwP le2 c2)) j))))] := hD.sub [0, 1, 2, 3, 4, 5] (by decide) rfl
        refine lv_iinc (v := nI (c2 - 1)) (lv' := [(1, .int (nI (c2 - 1))), (0, .ref o)]) hx hb dX1_mergeWhatIsLeft_24 hl (k := 0) rfl (sb_m1 (by omega)) (by decide) rfl (fun ls hl => ?_)
        refine lv_goto (tgt := 8) hx hb dX1_mergeWhatIsLeft_27 (by decide) ?_
        exact ih_w f3 g3 (shf st2 ((lwP le2 c2) + 1) (c2 - 1)) (jn le2 c2 (lwP le2 c2)) (c2 - 1) (me2 + 1) (mp2 + (le2 (lwP le2 c2) + le2 ((lwP le2 c2) + 1))) (pC_jn hp hc2) (pS_jn hp hc2 hs2 hw) hkp.1 hkp.2 (by rw [← hT, fnl_s c_10]) (by omega) (by omega) (by omega) _ _ _ hP hD hS (lv_sub hl [0, 1] rfl)
  exact L_w (_ + 1) f g st le ct me mp hc hs (fun _ _ => rfl) (sE_refl _) rfl hct hM (Nat.lt_succ_self _) _ _ _ hP hD hS (lv_sub hl [0, 1] rfl)
abbrev rmX1_forgetLatestSorting : Room := { frames := 1, cells := 0, slots := 0, locals := 20 }
set_option maxRecDepth 100000 in
set_option maxHeartbeats 4000000 in
theorem c_X1_forgetLatestSorting (l : Launch) (dC : Nat → ClassId) (dI : Nat → Nat → Nat) (cJ cI : ClassId) (o oP oA oL oR oS oN n ru me gh ct ht : Nat) (mp : Int64)  : CV l yX1_forgetLatestSorting wsX1_forgetLatestSorting rmX1_forgetLatestSorting [.ref o] (dC, dI) vwCl (KT cJ cI) [(o, .inr (1, [.ref oP, .int (nI n), .ref oA, .ref oL, .ref oR, .int (nI ru), .int (nI me), .long mp, .int (nI gh)])), (oL, .inr (0, [.ref oS, .ref oN, .int (nI ct), .int (nI ht)]))] (S := Unit) (fun _ => True) (fun _ => KT cJ cI) (fun _ => [(o, .inr (1, [.ref oP, .int (nI n), .ref oA, .ref oL, .ref oR, .int (nI 0), .int (nI 0), .long (lN 0), .int (nI gh)])), (oL, .inr (0, [.ref oS, .ref oN, .int (nI 0), .int (nI 0)]))]) := by
  refine CV.mk (by decide) rfl (Nat.le_of_ble_eq_true rfl) ?_
  intro p e s m args below meth c A Q ls hx hb hml hown hts hin hA hS hP hD hK hN hl hret
  have hl : lv_has ls 1 [(0, .ref o)] := hl
  have hin_1 : ∀ w ∈ u_ws RX1 TX1 9, w ∈ wsX1_forgetLatestSorting := by decide +kernel
  have k_1 := hts (Cond.fieldLink RX1 60 "PairSorter" "runs" "I") (by decide +kernel)
  have k_2 := hts (Cond.fieldLink RX1 92 "PairSorter" "merges" "I") (by decide +kernel)
  have k_3 := hts (Cond.fieldLink RX1 95 "PairSorter" "mergedPairs" "J") (by decide +kernel)
  have k_4 := hts (Cond.fieldLink RX1 30 "PairSorter" "pile" "LPairSorter$Pile;") (by decide +kernel)
  refine lv_aload_n hx hb dX1_forgetLatestSorting_0 rfl (lv_at hl 0 rfl) ?_
  refine lv_iconst (v := nI 0) hx hb dX1_forgetLatestSorting_1 (by decide) ?_
  refine va_put (D := (dC, dI)) (ci := 1) (v := .int (nI 0)) (ty := .int) (C := RX1) (T := TX1) (N := 9) hx hb hts hin_1 tyX1 tyX1_ok nmX1 hown hK hP hD hS 0 rfl rfl 5 (by decide) k_1 (fun _ h9 => h9) rfl (by decide +kernel) rfl rfl (Nat.le_of_ble_eq_true rfl) dX1_forgetLatestSorting_2 (fun H locs hP hD hS => ?_)
  have hP : va_P (dC, dI) vwCl [(o, .inr (1, [.ref oP, .int (nI n), .ref oA, .ref oL, .ref oR, .int (nI 0), .int (nI me), .long mp, .int (nI gh)])), (oL, .inr (0, [.ref oS, .ref oN, .int (nI ct), .int (nI ht)]))] H := hP
  have hD : va_D A [(o, .inr (1, [.ref oP, .int (nI n), .ref oA, .ref oL, .ref oR, .int (nI 0), .int (nI me), .long mp, .int (nI gh)])), (oL, .inr (0, [.ref oS, .ref oN, .int (nI ct), .int (nI ht)]))] := hD
  refine lv_aload_n hx hb dX1_forgetLatestSorting_5 rfl (lv_at hl 0 rfl) ?_
  refine lv_iconst (v := nI 0) hx hb dX1_forgetLatestSorting_6 (by decide) ?_
  refine va_put (D := (dC, dI)) (ci := 1) (v := .int (nI 0)) (ty := .int) (C := RX1) (T := TX1) (N := 9) hx hb hts hin_1 tyX1 tyX1_ok nmX1 hown hK hP hD hS 0 rfl rfl 6 (by decide) k_2 (fun _ h9 => h9) rfl (by decide +kernel) rfl rfl (Nat.le_of_ble_eq_true rfl) dX1_forgetLatestSorting_7 (fun H locs hP hD hS => ?_)
  have hP : va_P (dC, dI) vwCl [(o, .inr (1, [.ref oP, .int (nI n), .ref oA, .ref oL, .ref oR, .int (nI 0), .int (nI 0), .long mp, .int (nI gh)])), (oL, .inr (0, [.ref oS, .ref oN, .int (nI ct), .int (nI ht)]))] H := hP
  have hD : va_D A [(o, .inr (1, [.ref oP, .int (nI n), .ref oA, .ref oL, .ref oR, .int (nI 0), .int (nI 0), .long mp, .int (nI gh)])), (oL, .inr (0, [.ref oS, .ref oN, .int (nI ct), .int (nI ht)]))] := hD
  refine lv_aload_n hx hb dX1_forgetLatestSorting_10 rfl (lv_at hl 0 rfl) ?_
  refine lv_lconst (v := lN 0) hx hb dX1_forgetLatestSorting_11 (by decide) ?_
  refine va_put (D := (dC, dI)) (ci := 1) (v := .long (lN 0)) (ty := .long) (C := RX1) (T := TX1) (N := 9) hx hb hts hin_1 tyX1 tyX1_ok nmX1 hown hK hP hD hS 0 rfl rfl 7 (by decide) k_3 (fun _ h9 => h9) rfl (by decide +kernel) rfl rfl (Nat.le_of_ble_eq_true rfl) dX1_forgetLatestSorting_12 (fun H locs hP hD hS => ?_)
  have hP : va_P (dC, dI) vwCl [(o, .inr (1, [.ref oP, .int (nI n), .ref oA, .ref oL, .ref oR, .int (nI 0), .int (nI 0), .long (lN 0), .int (nI gh)])), (oL, .inr (0, [.ref oS, .ref oN, .int (nI ct), .int (nI ht)]))] H := hP
  have hD : va_D A [(o, .inr (1, [.ref oP, .int (nI n), .ref oA, .ref oL, .ref oR, .int (nI 0), .int (nI 0), .long (lN 0), .int (nI gh)])), (oL, .inr (0, [.ref oS, .ref oN, .int (nI ct), .int (nI ht)]))] := hD
  refine lv_aload_n hx hb dX1_forgetLatestSorting_15 rfl (lv_at hl 0 rfl) ?_
  refine va_get (D := (dC, dI)) (ci := 1) (v := .ref oL) (C := RX1) (T := TX1) (N := 9) hx hb hts hin_1 hown hK hP 0 rfl rfl 3 (by decide) k_4 (fun _ h9 => h9) rfl dX1_forgetLatestSorting_16 ?_
  refine call_VN_V (As := []) (rest := []) (wr := [(o, .inr (1, [.ref oP, .int (nI n), .ref oA, .ref oL, .ref oR, .int (nI 0), .int (nI 0), .long (lN 0), .int (nI gh)]))]) ⟨hx, hb, hml, hown, hts⟩ (c_X0_empty l dC dI cJ cI oL oS oN ct ht) (⟨va_cnB (host := "PairSorter") 0 hts gX1_forgetLatestSorting_X0_empty_n102 rfl rfl rfl (hN _ (by decide +kernel)) (hts (.initialized RX0) (by decide +kernel)) (by decide +kernel) ⟨Nat.le_of_ble_eq_true rfl, Nat.le_of_ble_eq_true rfl⟩, hts (.instanceMethod yX0_empty) (by decide +kernel), hts (.selects RX0 yX0_empty yX0_empty) (by decide +kernel)⟩) hP hD hK hN hS hA [1] [0] [0, 1] rfl rfl rfl (by decide) (by decide) (by decide) 0 0 rfl rfl rfl rfl hl.1 rfl (Nat.le_of_ble_eq_true rfl) dX1_forgetLatestSorting_19 (Nat.le_of_ble_eq_true rfl) (Nat.le_of_ble_eq_true rfl) (fun u_19 H locs hw_19 hP hD hK1 hS => ?_)
  refine W.widen (k := 0) (n := 0) (Nat.le_of_ble_eq_true rfl) (Nat.le_of_ble_eq_true rfl) ?_
  have hP : va_P (dC, dI) vwCl [(o, .inr (1, [.ref oP, .int (nI n), .ref oA, .ref oL, .ref oR, .int (nI 0), .int (nI 0), .long (lN 0), .int (nI gh)])), (oL, .inr (0, [.ref oS, .ref oN, .int (nI 0), .int (nI 0)]))] H := ct_Psub hP [0, 1] rfl
  have hD : va_D A [(o, .inr (1, [.ref oP, .int (nI n), .ref oA, .ref oL, .ref oR, .int (nI 0), .int (nI 0), .long (lN 0), .int (nI gh)])), (oL, .inr (0, [.ref oS, .ref oN, .int (nI 0), .int (nI 0)]))] := hD.sub [0, 1] (by decide) rfl
  exact hret () _ _ _ _ _ _ (trivial) hP hK hD hS (Nat.le_of_ble_eq_true rfl) (Nat.le_of_ble_eq_true rfl) dX1_forgetLatestSorting_22
abbrev rmX1_clear : Room := { frames := 2, cells := 0, slots := 0, locals := 40 }
set_option maxRecDepth 100000 in
set_option maxHeartbeats 4000000 in
theorem c_X1_clear (l : Launch) (dC : Nat → ClassId) (dI : Nat → Nat → Nat) (cJ cI : ClassId) (o oP oA oL oR oS oN n ru me gh ct ht : Nat) (mp : Int64)  : CV l yX1_clear wsX1_clear rmX1_clear [.ref o] (dC, dI) vwCl (KT cJ cI) [(o, .inr (1, [.ref oP, .int (nI n), .ref oA, .ref oL, .ref oR, .int (nI ru), .int (nI me), .long mp, .int (nI gh)])), (oL, .inr (0, [.ref oS, .ref oN, .int (nI ct), .int (nI ht)]))] (S := Unit) (fun _ => True) (fun _ => KT cJ cI) (fun _ => [(o, .inr (1, [.ref oP, .int (nI 0), .ref oA, .ref oL, .ref oR, .int (nI 0), .int (nI 0), .long (lN 0), .int (nI 0)])), (oL, .inr (0, [.ref oS, .ref oN, .int (nI 0), .int (nI 0)]))]) := by
  refine CV.mk (by decide) rfl (Nat.le_of_ble_eq_true rfl) ?_
  intro p e s m args below meth c A Q ls hx hb hml hown hts hin hA hS hP hD hK hN hl hret
  have hl : lv_has ls 1 [(0, .ref o)] := hl
  have hin_1 : ∀ w ∈ u_ws RX1 TX1 9, w ∈ wsX1_clear := by decide +kernel
  have k_1 := hts (Cond.fieldLink RX1 38 "PairSorter" "size" "I") (by decide +kernel)
  have k_2 := hts (Cond.fieldLink RX1 75 "PairSorter" "greatestHeight" "I") (by decide +kernel)
  refine lv_aload_n hx hb dX1_clear_0 rfl (lv_at hl 0 rfl) ?_
  refine lv_iconst (v := nI 0) hx hb dX1_clear_1 (by decide) ?_
  refine va_put (D := (dC, dI)) (ci := 1) (v := .int (nI 0)) (ty := .int) (C := RX1) (T := TX1) (N := 9) hx hb hts hin_1 tyX1 tyX1_ok nmX1 hown hK hP hD hS 0 rfl rfl 1 (by decide) k_1 (fun _ h9 => h9) rfl (by decide +kernel) rfl rfl (Nat.le_of_ble_eq_true rfl) dX1_clear_2 (fun H locs hP hD hS => ?_)
  have hP : va_P (dC, dI) vwCl [(o, .inr (1, [.ref oP, .int (nI 0), .ref oA, .ref oL, .ref oR, .int (nI ru), .int (nI me), .long mp, .int (nI gh)])), (oL, .inr (0, [.ref oS, .ref oN, .int (nI ct), .int (nI ht)]))] H := hP
  have hD : va_D A [(o, .inr (1, [.ref oP, .int (nI 0), .ref oA, .ref oL, .ref oR, .int (nI ru), .int (nI me), .long mp, .int (nI gh)])), (oL, .inr (0, [.ref oS, .ref oN, .int (nI ct), .int (nI ht)]))] := hD
  refine lv_aload_n hx hb dX1_clear_5 rfl (lv_at hl 0 rfl) ?_
  refine lv_iconst (v := nI 0) hx hb dX1_clear_6 (by decide) ?_
  refine va_put (D := (dC, dI)) (ci := 1) (v := .int (nI 0)) (ty := .int) (C := RX1) (T := TX1) (N := 9) hx hb hts hin_1 tyX1 tyX1_ok nmX1 hown hK hP hD hS 0 rfl rfl 8 (by decide) k_2 (fun _ h9 => h9) rfl (by decide +kernel) rfl rfl (Nat.le_of_ble_eq_true rfl) dX1_clear_7 (fun H locs hP hD hS => ?_)
  have hP : va_P (dC, dI) vwCl [(o, .inr (1, [.ref oP, .int (nI 0), .ref oA, .ref oL, .ref oR, .int (nI ru), .int (nI me), .long mp, .int (nI 0)])), (oL, .inr (0, [.ref oS, .ref oN, .int (nI ct), .int (nI ht)]))] H := hP
  have hD : va_D A [(o, .inr (1, [.ref oP, .int (nI 0), .ref oA, .ref oL, .ref oR, .int (nI ru), .int (nI me), .long mp, .int (nI 0)])), (oL, .inr (0, [.ref oS, .ref oN, .int (nI ct), .int (nI ht)]))] := hD
  refine lv_aload_n hx hb dX1_clear_10 rfl (lv_at hl 0 rfl) ?_
  refine call_V_V (As := []) (rest := []) (wr := []) ⟨hx, hb, hml, hown, hts⟩ (c_X1_forgetLatestSorting l dC dI cJ cI o oP oA oL oR oS oN 0 ru me 0 ct ht mp) (cwV 0 hts gX1_clear_X1_forgetLatestSorting rfl rfl rfl (by decide +kernel) ⟨Nat.le_of_ble_eq_true rfl, Nat.le_of_ble_eq_true rfl⟩) hP hD hK hN hS hA [0, 1] [] [0, 1] rfl rfl rfl (by decide) (by decide) (by decide) 0 1 rfl rfl rfl rfl hl.1 rfl (Nat.le_of_ble_eq_true rfl) dX1_clear_11 (Nat.le_of_ble_eq_true rfl) (Nat.le_of_ble_eq_true rfl) (fun u_11 H locs hw_11 hP hD hK1 hS => ?_)
  refine W.widen (k := 0) (n := 0) (Nat.le_of_ble_eq_true rfl) (Nat.le_of_ble_eq_true rfl) ?_
  have hP : va_P (dC, dI) vwCl [(o, .inr (1, [.ref oP, .int (nI 0), .ref oA, .ref oL, .ref oR, .int (nI 0), .int (nI 0), .long (lN 0), .int (nI 0)])), (oL, .inr (0, [.ref oS, .ref oN, .int (nI 0), .int (nI 0)]))] H := ct_Psub hP [0, 1] rfl
  have hD : va_D A [(o, .inr (1, [.ref oP, .int (nI 0), .ref oA, .ref oL, .ref oR, .int (nI 0), .int (nI 0), .long (lN 0), .int (nI 0)])), (oL, .inr (0, [.ref oS, .ref oN, .int (nI 0), .int (nI 0)]))] := hD.sub [0, 1] (by decide) rfl
  exact hret () _ _ _ _ _ _ (trivial) hP hK hD hS (Nat.le_of_ble_eq_true rfl) (Nat.le_of_ble_eq_true rfl) dX1_clear_14
abbrev rmX1_run : Room := { frames := 5, cells := 0, slots := 0, locals := 111 }
set_option maxRecDepth 100000 in
set_option maxHeartbeats 4000000 in
theorem c_X1_run (l : Launch) (dC : Nat → ClassId) (dI : Nat → Nat → Nat) (cJ cI : ClassId) (o oP oA oL oR oS oN C M n ru me mp gh ct ht : Nat) (f g : Nat → Int64) (st le rl : Nat → Nat) (hn : n ≤ C) (hC : C ≤ 4096) (hMC : M = C / 16 + 1) (hM2 : M < 2 ^ 30) (hgh : gh ≤ 4096) : CI l yX1_run wsX1_run rmX1_run [.ref o] (dC, dI) vwCl (KT cJ cI) [(o, .inr (1, [.ref oP, .int (nI n), .ref oA, .ref oL, .ref oR, .int (nI ru), .int (nI me), .long (lN mp), .int (nI gh)])), (oP, .inl (cJ, C, .inr (.inl f))), (oA, .inl (cJ, (C / 2), .inr (.inl g))), (oL, .inr (0, [.ref oS, .ref oN, .int (nI ct), .int (nI ht)])), (oS, .inl (cI, M, .inl (fun j => nI (st j)))), (oN, .inl (cI, M, .inl (fun j => nI (le j)))), (oR, .inl (cI, M, .inl (fun j => nI (rl j))))] (S := (Nat → Int64) × (Nat → Int64) × (Nat → Nat) × (Nat → Nat) × Nat × Nat × (Nat → Nat) × Nat × Nat × Nat × Nat) (fun r (f', g', st', le', ct', ru', rl', me', mp', ht', gh') => r = nI ht' ∧ (ru', rl', me', mp', ht') = rnQ (kf f) n rl le ∧ gh' = max gh ht' ∧ so ky f' 0 n ∧ sE ky (sg f' 0 n) (sg f 0 n) ∧ ru' ≤ M) (fun _ => KT cJ cI) (fun (f', g', st', le', ct', ru', rl', me', mp', ht', gh') => [(o, .inr (1, [.ref oP, .int (nI n), .ref oA, .ref oL, .ref oR, .int (nI ru'), .int (nI me'), .long (lN mp'), .int (nI gh')])), (oP, .inl (cJ, C, .inr (.inl f'))), (oA, .inl (cJ, (C / 2), .inr (.inl g'))), (oL, .inr (0, [.ref oS, .ref oN, .int (nI ct'), .int (nI ht')])), (oS, .inl (cI, M, .inl (fun j => nI (st' j)))), (oN, .inl (cI, M, .inl (fun j => nI (le' j)))), (oR, .inl (cI, M, .inl (fun j => nI (rl' j))))]) := by
  refine CI.mk (by decide) rfl (Nat.le_of_ble_eq_true rfl) ?_
  intro p e s m args below meth c A Q ls hx hb hml hown hts hA hS hP hD hK hN hl hret
  have hl : lv_has ls 4 [(0, .ref o)] := hl
  have hin_0 : ∀ w ∈ u_ws RX0 TX0 4, w ∈ wsX1_run := by decide +kernel
  have hin_1 : ∀ w ∈ u_ws RX1 TX1 9, w ∈ wsX1_run := by decide +kernel
  have k_1 := hts (Cond.fieldLink RX1 38 "PairSorter" "size" "I") (by decide +kernel)
  have k_2 := hts (Cond.fieldLink RX1 75 "PairSorter" "greatestHeight" "I") (by decide +kernel)
  have k_3 := hts (Cond.fieldLink RX1 30 "PairSorter" "pile" "LPairSorter$Pile;") (by decide +kernel)
  have k_4 := va_Nw.use (A := args) rfl (hN (Cond.fieldLinkNest RX1 78 "PairSorter$Pile" "height" "I" "PairSorter") (by decide +kernel))
  have k_5 := hts (Cond.methodLink RX1 15 Lib.Math.max.name) (by decide +kernel)
  have k_6 := hts (Cond.static Lib.Math.max.name) (by decide +kernel)
  have k_7 := hts (Cond.initialized "java/lang/Math") (by decide +kernel)
  have k_8 := hts (Cond.code Lib.Math.max.name Lib.Math.max.code 2 (some .int)) (by decide +kernel)
  have k_9 := hts (Cond.fieldLink RX1 60 "PairSorter" "runs" "I") (by decide +kernel)
  have k_10 := hts (Cond.fieldLink RX1 34 "PairSorter" "runLengths" "[I") (by decide +kernel)
  refine lv_aload_n hx hb dX1_run_0 rfl (lv_at hl 0 rfl) ?_
  refine call_V_V (As := []) (rest := []) (wr := [(oP, .inl (cJ, C, .inr (.inl f))), (oA, .inl (cJ, (C / 2), .inr (.inl g))), (oS, .inl (cI, M, .inl (fun j => nI (st j)))), (oN, .inl (cI, M, .inl (fun j => nI (le j)))), (oR, .inl (cI, M, .inl (fun j => nI (rl j))))]) ⟨hx, hb, hml, hown, hts⟩ (c_X1_forgetLatestSorting l dC dI cJ cI o oP oA oL oR oS oN n ru me gh ct ht (lN mp)) (cwV 0 hts gX1_run_X1_forgetLatestSorting rfl rfl rfl (by decide +kernel) ⟨Nat.le_of_ble_eq_true rfl, Nat.le_of_ble_eq_true rfl⟩) hP hD hK hN hS hA [0, 3] [1, 2, 4, 5, 6] [0, 1] rfl rfl rfl (by decide) (by decide) (by decide) 0 1 rfl rfl rfl rfl hl.1 rfl (Nat.le_of_ble_eq_true rfl) dX1_run_1 (Nat.le_of_ble_eq_true rfl) (Nat.le_of_ble_eq_true rfl) (fun u_1 H locs hw_1 hP hD hK1 hS => ?_)
  refine W.widen (k := 0) (n := 0) (Nat.le_of_ble_eq_true rfl) (Nat.le_of_ble_eq_true rfl) ?_
  have hP : va_P (dC, dI) vwCl [(o, .inr (1, [.ref oP, .int (nI n), .ref oA, .ref oL, .ref oR, .int (nI 0), .int (nI 0), .long (lN 0), .int (nI gh)])), (oP, .inl (cJ, C, .inr (.inl f))), (oA, .inl (cJ, (C / 2), .inr (.inl g))), (oL, .inr (0, [.ref oS, .ref oN, .int (nI 0), .int (nI 0)])), (oS, .inl (cI, M, .inl (fun j => nI (st j)))), (oN, .inl (cI, M, .inl (fun j => nI (le j)))), (oR, .inl (cI, M, .inl (fun j => nI (rl j))))] H := ct_Psub hP [5, 0, 1, 6, 2, 3, 4] rfl
  have hD : va_D A [(o, .inr (1, [.ref oP, .int (nI n), .ref oA, .ref oL, .ref oR, .int (nI 0), .int (nI 0), .long (lN 0), .int (nI gh)])), (oP, .inl (cJ, C, .inr (.inl f))), (oA, .inl (cJ, (C / 2), .inr (.inl g))), (oL, .inr (0, [.ref oS, .ref oN, .int (nI 0), .int (nI 0)])), (oS, .inl (cI, M, .inl (fun j => nI (st j)))), (oN, .inl (cI, M, .inl (fun j => nI (le j)))), (oR, .inl (cI, M, .inl (fun j => nI (rl j))))] := hD.sub [5, 0, 1, 6, 2, 3, 4] (by decide) rfl
  refine lv_aload_n hx hb dX1_run_4 rfl (lv_at hl 0 rfl) ?_
  refine va_get (D := (dC, dI)) (ci := 1) (v := .int (nI n)) (C := RX1) (T := TX1) (N := 9) hx hb hts hin_1 hown hK hP 0 rfl rfl 1 (by decide) k_1 (fun _ h9 => h9) rfl dX1_run_5 ?_
  refine lv_iconst (v := nI 2) hx hb dX1_run_8 (by decide) ?_
  refine xr_icmp_ge (tgt := 14) hx hb dX1_run_9 (by decide) (by omega) (by omega) (fun c_9 => ?_) (fun c_9 => ?_)
  · refine lv_aload_n hx hb dX1_run_14 rfl (lv_at hl 0 rfl) ?_
    refine va_get (D := (dC, dI)) (ci := 1) (v := .int (nI n)) (C := RX1) (T := TX1) (N := 9) hx hb hts hin_1 hown hK hP 0 rfl rfl 1 (by decide) k_1 (fun _ h9 => h9) rfl dX1_run_15 ?_
    refine call_S_I (As := [.int (nI n)]) (rest := []) (wr := [(o, .inr (1, [.ref oP, .int (nI n), .ref oA, .ref oL, .ref oR, .int (nI 0), .int (nI 0), .long (lN 0), .int (nI gh)])), (oP, .inl (cJ, C, .inr (.inl f))), (oA, .inl (cJ, (C / 2), .inr (.inl g))), (oL, .inr (0, [.ref oS, .ref oN, .int (nI 0), .int (nI 0)])), (oS, .inl (cI, M, .inl (fun j => nI (st j)))), (oN, .inl (cI, M, .inl (fun j => nI (le j)))), (oR, .inl (cI, M, .inl (fun j => nI (rl j))))]) ⟨hx, hb, hml, hown, hts⟩ (c_X1_leastFor l dC dI cJ cI n (by omega)) (va_cwS 1 hts gX1_run_X1_leastFor rfl rfl rfl (by decide +kernel) ⟨Nat.le_of_ble_eq_true rfl, Nat.le_of_ble_eq_true rfl⟩) hP hD hK hN hS hA [] [0, 1, 2, 3, 4, 5, 6] [0, 1] rfl rfl rfl (by decide) (by decide) (by decide) rfl hl.1 rfl (Nat.le_of_ble_eq_true rfl) dX1_run_18 (Nat.le_of_ble_eq_true rfl) (Nat.le_of_ble_eq_true rfl) (fun r_18 u_18 H locs hw_18 hP hD hK1 hS => ?_)
    refine W.widen (k := 0) (n := 0) (Nat.le_of_ble_eq_true rfl) (Nat.le_of_ble_eq_true rfl) ?_
    have hP : va_P (dC, dI) vwCl [(o, .inr (1, [.ref oP, .int (nI n), .ref oA, .ref oL, .ref oR, .int (nI 0), .int (nI 0), .long (lN 0), .int (nI gh)])), (oP, .inl (cJ, C, .inr (.inl f))), (oA, .inl (cJ, (C / 2), .inr (.inl g))), (oL, .inr (0, [.ref oS, .ref oN, .int (nI 0), .int (nI 0)])), (oS, .inl (cI, M, .inl (fun j => nI (st j)))), (oN, .inl (cI, M, .inl (fun j => nI (le j)))), (oR, .inl (cI, M, .inl (fun j => nI (rl j))))] H := ct_Psub hP [0, 1, 2, 3, 4, 5, 6] rfl
    have hD : va_D A [(o, .inr (1, [.ref oP, .int (nI n), .ref oA, .ref oL, .ref oR, .int (nI 0), .int (nI 0), .long (lN 0), .int (nI gh)])), (oP, .inl (cJ, C, .inr (.inl f))), (oA, .inl (cJ, (C / 2), .inr (.inl g))), (oL, .inr (0, [.ref oS, .ref oN, .int (nI 0), .int (nI 0)])), (oS, .inl (cI, M, .inl (fun j => nI (st j)))), (oN, .inl (cI, M, .inl (fun j => nI (le j)))), (oR, .inl (cI, M, .inl (fun j => nI (rl j))))] := hD.sub [0, 1, 2, 3, 4, 5, 6] (by decide) rfl
    refine xr_top (y := nI (lsR n 0)) (hw_18) ?_
    have hLs := lsR_use (n := n)
    refine lv_istore_n (lv' := [(1, .int (nI (lsR n 0))), (0, .ref o)]) hx hb dX1_run_21 rfl hl (by decide) rfl (fun ls hl => ?_)
    refine lv_iconst (v := nI 0) hx hb dX1_run_22 (by decide) ?_
    refine lv_istore_n (lv' := [(2, .int (nI 0)), (1, .int (nI (lsR n 0))), (0, .ref o)]) hx hb dX1_run_23 rfl hl (by decide) rfl (fun ls hl => ?_)
    have L_r : ∀ (kq : Nat) (a ct2 ru2 me2 mp2 ht2 : Nat) (f2 g2 : Nat → Int64) (st2 le2 rl2 : Nat → Nat), (a ≤ n) → (pC st2 le2 ct2 a) → (ct2 = 0 → a = 0) → (pS f2 st2 le2 ct2) → (∀ j, a ≤ j → f2 j = f j) → (sE ky (sg f2 0 a) (sg f 0 a)) → (rsF (kf f) n (lsR n 0) a ru2 rl2 le2 ct2 me2 mp2 ht2 = rsF (kf f) n (lsR n 0) 0 0 rl le 0 0 0 0) → (ct2 ≤ ru2) → (ru2 ≤ a) → (a < n → 16 * ru2 ≤ a) → (ht2 ≤ ru2) → (0 < a → 0 < ct2) → (ru2 ≤ M) → n - a < kq → ∀ (H : Heap) (locs : List Loc) (ls : Array Slot), va_P (dC, dI) vwCl [(o, .inr (1, [.ref oP, .int (nI n), .ref oA, .ref oL, .ref oR, .int (nI ru2), .int (nI me2), .long (lN mp2), .int (nI gh)])), (oP, .inl (cJ, C, .inr (.inl f2))), (oA, .inl (cJ, (C / 2), .inr (.inl g2))), (oL, .inr (0, [.ref oS, .ref oN, .int (nI ct2), .int (nI ht2)])), (oS, .inl (cI, M, .inl (fun j => nI (st2 j)))), (oN, .inl (cI, M, .inl (fun j => nI (le2 j)))), (oR, .inl (cI, M, .inl (fun j => nI (rl2 j))))] H → va_D A [(o, .inr (1, [.ref oP, .int (nI n), .ref oA, .ref oL, .ref oR, .int (nI ru2), .int (nI me2), .long (lN mp2), .int (nI gh)])), (oP, .inl (cJ, C, .inr (.inl f2))), (oA, .inl (cJ, (C / 2), .inr (.inl g2))), (oL, .inr (0, [.ref oS, .ref oN, .int (nI ct2), .int (nI ht2)])), (oS, .inl (cI, M, .inl (fun j => nI (st2 j)))), (oN, .inl (cI, M, .inl (fun j => nI (le2 j)))), (oR, .inl (cI, M, .inl (fun j => nI (rl2 j))))] → va_S A s.heap H locs → lv_has ls 4 [(2, .int (nI a)), (1, .int (nI (lsR n 0))), (0, .ref o)] → W p l e rmX1_run s m args below meth c H locs 0 0 Q (F0 m 24 ls []) := by
      intro kq
      induction kq with
      | zero =>
        intro a ct2 ru2 me2 mp2 ht2 f2 g2 st2 le2 rl2 ha hc2 h0 hs2 hxx hE hT hcr hra h16 hht hz hrM hm
        exact absurd hm (Nat.not_lt_zero _)
      | succ kq ih_r =>
        intro a ct2 ru2 me2 mp2 ht2 f2 g2 st2 le2 rl2 ha hc2 h0 hs2 hxx hE hT hcr hra h16 hht hz hrM hm H locs ls hP hD hS hl
        refine lv_iload_n hx hb dX1_run_24 rfl (lv_at hl 0 rfl) ?_
        refine lv_aload_n hx hb dX1_run_25 rfl (lv_at hl 2 rfl) ?_
        refine va_get (D := (dC, dI)) (ci := 1) (v := .int (nI n)) (C := RX1) (T := TX1) (N := 9) hx hb hts hin_1 hown hK hP 0 rfl rfl 1 (by decide) k_1 (fun _ h9 => h9) rfl dX1_run_26 ?_
        refine xr_icmp_ge (tgt := 91) hx hb dX1_run_29 (by decide) (by omega) (by omega) (fun c_29 => ?_) (fun c_29 => ?_)
        · have hcz := hz (by omega)
          have hcm2 : ct2 ≤ M := by omega
          refine lv_aload_n hx hb dX1_run_91 rfl (lv_at hl 2 rfl) ?_
          refine call_V_V (As := []) (rest := []) (wr := [(oR, .inl (cI, M, .inl (fun j => nI (rl2 j))))]) ⟨hx, hb, hml, hown, hts⟩ (c_X1_mergeWhatIsLeft l dC dI cJ cI o oP oA oL oR oS oN C M n ru2 me2 mp2 gh ct2 ht2 f2 g2 st2 le2 a (by omega) (by omega) hM2 hc2 (by omega) hC hs2) (cwV 0 hts gX1_run_X1_mergeWhatIsLeft rfl rfl rfl (by decide +kernel) ⟨Nat.le_of_ble_eq_true rfl, Nat.le_of_ble_eq_true rfl⟩) hP hD hK hN hS hA [0, 1, 2, 3, 4, 5] [6] [0, 1] rfl rfl rfl (by decide) (by decide) (by decide) 0 1 rfl rfl rfl rfl hl.1 rfl (Nat.le_of_ble_eq_true rfl) dX1_run_92 (Nat.le_of_ble_eq_true rfl) (Nat.le_of_ble_eq_true rfl) (fun u_92 H locs hw_92 hP hD hK1 hS => ?_)
          refine W.widen (k := 0) (n := 0) (Nat.le_of_ble_eq_true rfl) (Nat.le_of_ble_eq_true rfl) ?_
          obtain ⟨f6, g6, st6, le6, c6⟩ := u_92
          obtain ⟨b1, b2, b3⟩ := hw_92
          rw [rsF_n (by omega)] at hT
          have han : a = n := by omega
          have hP : va_P (dC, dI) vwCl [(o, .inr (1, [.ref oP, .int (nI n), .ref oA, .ref oL, .ref oR, .int (nI ru2), .int (nI ((fnl ct2 le2 me2 mp2).1)), .long (lN ((fnl ct2 le2 me2 mp2).2)), .int (nI gh)])), (oP, .inl (cJ, C, .inr (.inl f6))), (oA, .inl (cJ, (C / 2), .inr (.inl g6))), (oL, .inr (0, [.ref oS, .ref oN, .int (nI c6), .int (nI ht2)])), (oS, .inl (cI, M, .inl (fun j => nI (st6 j)))), (oN, .inl (cI, M, .inl (fun j => nI (le6 j)))), (oR, .inl (cI, M, .inl (fun j => nI (rl2 j))))] H := ct_Psub hP [1, 2, 3, 4, 5, 6, 0] rfl
          have hD : va_D A [(o, .inr (1, [.ref oP, .int (nI n), .ref oA, .ref oL, .ref oR, .int (nI ru2), .int (nI ((fnl ct2 le2 me2 mp2).1)), .long (lN ((fnl ct2 le2 me2 mp2).2)), .int (nI gh)])), (oP, .inl (cJ, C, .inr (.inl f6))), (oA, .inl (cJ, (C / 2), .inr (.inl g6))), (oL, .inr (0, [.ref oS, .ref oN, .int (nI c6), .int (nI ht2)])), (oS, .inl (cI, M, .inl (fun j => nI (st6 j)))), (oN, .inl (cI, M, .inl (fun j => nI (le6 j)))), (oR, .inl (cI, M, .inl (fun j => nI (rl2 j))))] := hD.sub [1, 2, 3, 4, 5, 6, 0] (by decide) rfl
          refine lv_aload_n hx hb dX1_run_95 rfl (lv_at hl 2 rfl) ?_
          refine lv_aload_n hx hb dX1_run_96 rfl (lv_at hl 2 rfl) ?_
          refine va_get (D := (dC, dI)) (ci := 1) (v := .int (nI gh)) (C := RX1) (T := TX1) (N := 9) hx hb hts hin_1 hown hK hP 0 rfl rfl 8 (by decide) k_2 (fun _ h9 => h9) rfl dX1_run_97 ?_
          refine lv_aload_n hx hb dX1_run_100 rfl (lv_at hl 2 rfl) ?_
          refine va_get (D := (dC, dI)) (ci := 1) (v := .ref oL) (C := RX1) (T := TX1) (N := 9) hx hb hts hin_1 hown hK hP 0 rfl rfl 3 (by decide) k_3 (fun _ h9 => h9) rfl dX1_run_101 ?_
          refine va_getN (D := (dC, dI)) (ci := 0) (v := .int (nI ht2)) (C := RX0) (T := TX0) (N := 4) hx hb hts hin_0 hown hK hP 3 rfl rfl 3 (by decide) k_4 (fun _ h9 => h9) rfl dX1_run_104 ?_
          refine xr_mmax hx hb (hml.trans hl.1.symm) hown k_5 k_6 k_7 k_8 (Nat.le_of_ble_eq_true rfl) (Nat.le_of_ble_eq_true rfl) (Nat.le_of_ble_eq_true rfl) (Nat.le_of_ble_eq_true rfl) (by omega) (by omega) dX1_run_107 ?_
          refine va_put (D := (dC, dI)) (ci := 1) (v := .int (nI (max gh ht2))) (ty := .int) (C := RX1) (T := TX1) (N := 9) hx hb hts hin_1 tyX1 tyX1_ok nmX1 hown hK hP hD hS 0 rfl rfl 8 (by decide) k_2 (fun _ h9 => h9) rfl (by decide +kernel) rfl rfl (Nat.le_of_ble_eq_true rfl) dX1_run_110 (fun H locs hP hD hS => ?_)
          have hP : va_P (dC, dI) vwCl [(o, .inr (1, [.ref oP, .int (nI n), .ref oA, .ref oL, .ref oR, .int (nI ru2), .int (nI ((fnl ct2 le2 me2 mp2).1)), .long (lN ((fnl ct2 le2 me2 mp2).2)), .int (nI (max gh ht2))])), (oP, .inl (cJ, C, .inr (.inl f6))), (oA, .inl (cJ, (C / 2), .inr (.inl g6))), (oL, .inr (0, [.ref oS, .ref oN, .int (nI c6), .int (nI ht2)])), (oS, .inl (cI, M, .inl (fun j => nI (st6 j)))), (oN, .inl (cI, M, .inl (fun j => nI (le6 j)))), (oR, .inl (cI, M, .inl (fun j => nI (rl2 j))))] H := hP
          have hD : va_D A [(o, .inr (1, [.ref oP, .int (nI n), .ref oA, .ref oL, .ref oR, .int (nI ru2), .int (nI ((fnl ct2 le2 me2 mp2).1)), .long (lN ((fnl ct2 le2 me2 mp2).2)), .int (nI (max gh ht2))])), (oP, .inl (cJ, C, .inr (.inl f6))), (oA, .inl (cJ, (C / 2), .inr (.inl g6))), (oL, .inr (0, [.ref oS, .ref oN, .int (nI c6), .int (nI ht2)])), (oS, .inl (cI, M, .inl (fun j => nI (st6 j)))), (oN, .inl (cI, M, .inl (fun j => nI (le6 j)))), (oR, .inl (cI, M, .inl (fun j => nI (rl2 j))))] := hD
          refine lv_aload_n hx hb dX1_run_113 rfl (lv_at hl 2 rfl) ?_
          refine va_get (D := (dC, dI)) (ci := 1) (v := .ref oL) (C := RX1) (T := TX1) (N := 9) hx hb hts hin_1 hown hK hP 0 rfl rfl 3 (by decide) k_3 (fun _ h9 => h9) rfl dX1_run_114 ?_
          refine va_getN (D := (dC, dI)) (ci := 0) (v := .int (nI ht2)) (C := RX0) (T := TX0) (N := 4) hx hb hts hin_0 hown hK hP 3 rfl rfl 3 (by decide) k_4 (fun _ h9 => h9) rfl dX1_run_117 ?_
          exact hret (f6, g6, st6, le6, c6, ru2, rl2, (fnl ct2 le2 me2 mp2).1, (fnl ct2 le2 me2 mp2).2, ht2, max gh ht2) _ _ _ _ _ _ _ (⟨rfl, by unfold rnQ rnP; rw [if_neg (by omega), ← hT], rfl, han ▸ b1, han ▸ sE_trans b3 hE, hrM⟩) hP hK hD hS (Nat.le_of_ble_eq_true rfl) (Nat.le_of_ble_eq_true rfl) (rfl) dX1_run_120
        · refine lv_aload_n hx hb dX1_run_32 rfl (lv_at hl 2 rfl) ?_
          refine va_get (D := (dC, dI)) (ci := 1) (v := .int (nI ru2)) (C := RX1) (T := TX1) (N := 9) hx hb hts hin_1 hown hK hP 0 rfl rfl 5 (by decide) k_9 (fun _ h9 => h9) rfl dX1_run_33 ?_
          refine lv_aload_n hx hb dX1_run_36 rfl (lv_at hl 2 rfl) ?_
          refine va_get (D := (dC, dI)) (ci := 1) (v := .ref oR) (C := RX1) (T := TX1) (N := 9) hx hb hts hin_1 hown hK hP 0 rfl rfl 4 (by decide) k_10 (fun _ h9 => h9) rfl dX1_run_37 ?_
          refine va_alen (v := nI M) hx hb hK hP 6 1 rfl rfl rfl dX1_run_40 ?_
          refine xr_icmp_ge (tgt := 91) hx hb dX1_run_41 (by decide) (by omega) (by omega) (fun c_41 => ?_) (fun c_41 => ?_)
          · exact absurd c_41 (by have := h16 c_29; omega)
          · refine lv_aload_n hx hb dX1_run_44 rfl (lv_at hl 2 rfl) ?_
            refine lv_iload_n hx hb dX1_run_45 rfl (lv_at hl 0 rfl) ?_
            refine lv_iload_n hx hb dX1_run_46 rfl (lv_at hl 1 rfl) ?_
            refine call_V_I (As := [.int (nI a), .int (nI (lsR n 0))]) (rest := []) (wr := [(oA, .inl (cJ, (C / 2), .inr (.inl g2))), (oL, .inr (0, [.ref oS, .ref oN, .int (nI ct2), .int (nI ht2)])), (oS, .inl (cI, M, .inl (fun j => nI (st2 j)))), (oN, .inl (cI, M, .inl (fun j => nI (le2 j)))), (oR, .inl (cI, M, .inl (fun j => nI (rl2 j))))]) ⟨hx, hb, hml, hown, hts⟩ (c_X1_makeRun l dC dI cJ cI o oP oA oL oR C n ru2 me2 gh (lN mp2) f2 a (lsR n 0) c_29 hn hC (by omega)) (cwV 2 hts gX1_run_X1_makeRun rfl rfl rfl (by decide +kernel) ⟨Nat.le_of_ble_eq_true rfl, Nat.le_of_ble_eq_true rfl⟩) hP hD hK hN hS hA [0, 1] [2, 3, 4, 5, 6] [0, 1] rfl rfl rfl (by decide) (by decide) (by decide) 0 1 rfl rfl rfl rfl hl.1 rfl (Nat.le_of_ble_eq_true rfl) dX1_run_47 (Nat.le_of_ble_eq_true rfl) (Nat.le_of_ble_eq_true rfl) (fun r_47 u_47 H locs hw_47 hP hD hK1 hS => ?_)
            refine W.widen (k := 0) (n := 0) (Nat.le_of_ble_eq_true rfl) (Nat.le_of_ble_eq_true rfl) ?_
            obtain ⟨hr47, hk47⟩ := hw_47
            have e47 : mkL (kf f2) a n (lsR n 0) = mkL (kf f) a n (lsR n 0) := mkL_congr (fun j g1 _ => by show ky (f2 j) = ky (f j); rw [hxx j g1])
            rw [e47] at hr47 hk47
            have hm47 := mkL_in (κ := kf f) (lsR n 0) c_29
            have hP : va_P (dC, dI) vwCl [(o, .inr (1, [.ref oP, .int (nI n), .ref oA, .ref oL, .ref oR, .int (nI ru2), .int (nI me2), .long (lN mp2), .int (nI gh)])), (oP, .inl (cJ, C, .inr (.inl u_47))), (oA, .inl (cJ, (C / 2), .inr (.inl g2))), (oL, .inr (0, [.ref oS, .ref oN, .int (nI ct2), .int (nI ht2)])), (oS, .inl (cI, M, .inl (fun j => nI (st2 j)))), (oN, .inl (cI, M, .inl (fun j => nI (le2 j)))), (oR, .inl (cI, M, .inl (fun j => nI (rl2 j))))] H := ct_Psub hP [5, 6, 0, 1, 2, 3, 4] rfl
            have hD : va_D A [(o, .inr (1, [.ref oP, .int (nI n), .ref oA, .ref oL, .ref oR, .int (nI ru2), .int (nI me2), .long (lN mp2), .int (nI gh)])), (oP, .inl (cJ, C, .inr (.inl u_47))), (oA, .inl (cJ, (C / 2), .inr (.inl g2))), (oL, .inr (0, [.ref oS, .ref oN, .int (nI ct2), .int (nI ht2)])), (oS, .inl (cI, M, .inl (fun j => nI (st2 j)))), (oN, .inl (cI, M, .inl (fun j => nI (le2 j)))), (oR, .inl (cI, M, .inl (fun j => nI (rl2 j))))] := hD.sub [5, 6, 0, 1, 2, 3, 4] (by decide) rfl
            refine xr_top (y := nI (mkL (kf f) a n (lsR n 0))) (hr47) ?_
            refine lv_istore_n (lv' := [(3, .int (nI (mkL (kf f) a n (lsR n 0)))), (2, .int (nI a)), (1, .int (nI (lsR n 0))), (0, .ref o)]) hx hb dX1_run_50 rfl hl (by decide) rfl (fun ls hl => ?_)
            refine lv_aload_n hx hb dX1_run_51 rfl (lv_at hl 3 rfl) ?_
            refine va_get (D := (dC, dI)) (ci := 1) (v := .ref oR) (C := RX1) (T := TX1) (N := 9) hx hb hts hin_1 hown hK hP 0 rfl rfl 4 (by decide) k_10 (fun _ h9 => h9) rfl dX1_run_52 ?_
            refine lv_aload_n hx hb dX1_run_55 rfl (lv_at hl 3 rfl) ?_
            refine va_get (D := (dC, dI)) (ci := 1) (v := .int (nI ru2)) (C := RX1) (T := TX1) (N := 9) hx hb hts hin_1 hown hK hP 0 rfl rfl 5 (by decide) k_9 (fun _ h9 => h9) rfl dX1_run_56 ?_
            refine lv_iload_n hx hb dX1_run_59 rfl (lv_at hl 0 rfl) ?_
            refine xr_iastN hx hb hK hP hD hS 6 1 rfl rfl (by omega) (by omega) dX1_run_60 (fun H locs hP hD hS => ?_)
            have hP : va_P (dC, dI) vwCl [(o, .inr (1, [.ref oP, .int (nI n), .ref oA, .ref oL, .ref oR, .int (nI ru2), .int (nI me2), .long (lN mp2), .int (nI gh)])), (oP, .inl (cJ, C, .inr (.inl u_47))), (oA, .inl (cJ, (C / 2), .inr (.inl g2))), (oL, .inr (0, [.ref oS, .ref oN, .int (nI ct2), .int (nI ht2)])), (oS, .inl (cI, M, .inl (fun j => nI (st2 j)))), (oN, .inl (cI, M, .inl (fun j => nI (le2 j)))), (oR, .inl (cI, M, .inl (fun j => nI ((uN_up rl2 ru2 (mkL (kf f) a n (lsR n 0))) j))))] H := hP
            have hD : va_D A [(o, .inr (1, [.ref oP, .int (nI n), .ref oA, .ref oL, .ref oR, .int (nI ru2), .int (nI me2), .long (lN mp2), .int (nI gh)])), (oP, .inl (cJ, C, .inr (.inl u_47))), (oA, .inl (cJ, (C / 2), .inr (.inl g2))), (oL, .inr (0, [.ref oS, .ref oN, .int (nI ct2), .int (nI ht2)])), (oS, .inl (cI, M, .inl (fun j => nI (st2 j)))), (oN, .inl (cI, M, .inl (fun j => nI (le2 j)))), (oR, .inl (cI, M, .inl (fun j => nI ((uN_up rl2 ru2 (mkL (kf f) a n (lsR n 0))) j))))] := hD
            refine lv_aload_n hx hb dX1_run_61 rfl (lv_at hl 3 rfl) ?_
            refine lv_dup hx hb dX1_run_62 rfl ?_
            refine va_get (D := (dC, dI)) (ci := 1) (v := .int (nI ru2)) (C := RX1) (T := TX1) (N := 9) hx hb hts hin_1 hown hK hP 0 rfl rfl 5 (by decide) k_9 (fun _ h9 => h9) rfl dX1_run_63 ?_
            refine lv_iconst (v := nI 1) hx hb dX1_run_66 (by decide) ?_
            refine xr_iadd hx hb dX1_run_67 ?_
            refine va_put (D := (dC, dI)) (ci := 1) (v := .int (nI (ru2 + 1))) (ty := .int) (C := RX1) (T := TX1) (N := 9) hx hb hts hin_1 tyX1 tyX1_ok nmX1 hown hK hP hD hS 0 rfl rfl 5 (by decide) k_9 (fun _ h9 => h9) rfl (by decide +kernel) rfl rfl (Nat.le_of_ble_eq_true rfl) dX1_run_68 (fun H locs hP hD hS => ?_)
            have hP : va_P (dC, dI) vwCl [(o, .inr (1, [.ref oP, .int (nI n), .ref oA, .ref oL, .ref oR, .int (nI (ru2 + 1)), .int (nI me2), .long (lN mp2), .int (nI gh)])), (oP, .inl (cJ, C, .inr (.inl u_47))), (oA, .inl (cJ, (C / 2), .inr (.inl g2))), (oL, .inr (0, [.ref oS, .ref oN, .int (nI ct2), .int (nI ht2)])), (oS, .inl (cI, M, .inl (fun j => nI (st2 j)))), (oN, .inl (cI, M, .inl (fun j => nI (le2 j)))), (oR, .inl (cI, M, .inl (fun j => nI ((uN_up rl2 ru2 (mkL (kf f) a n (lsR n 0))) j))))] H := hP
            have hD : va_D A [(o, .inr (1, [.ref oP, .int (nI n), .ref oA, .ref oL, .ref oR, .int (nI (ru2 + 1)), .int (nI me2), .long (lN mp2), .int (nI gh)])), (oP, .inl (cJ, C, .inr (.inl u_47))), (oA, .inl (cJ, (C / 2), .inr (.inl g2))), (oL, .inr (0, [.ref oS, .ref oN, .int (nI ct2), .int (nI ht2)])), (oS, .inl (cI, M, .inl (fun j => nI (st2 j)))), (oN, .inl (cI, M, .inl (fun j => nI (le2 j)))), (oR, .inl (cI, M, .inl (fun j => nI ((uN_up rl2 ru2 (mkL (kf f) a n (lsR n 0))) j))))] := hD
            refine lv_aload_n hx hb dX1_run_71 rfl (lv_at hl 3 rfl) ?_
            refine va_get (D := (dC, dI)) (ci := 1) (v := .ref oL) (C := RX1) (T := TX1) (N := 9) hx hb hts hin_1 hown hK hP 0 rfl rfl 3 (by decide) k_3 (fun _ h9 => h9) rfl dX1_run_72 ?_
            refine lv_iload_n hx hb dX1_run_75 rfl (lv_at hl 1 rfl) ?_
            refine lv_iload_n hx hb dX1_run_76 rfl (lv_at hl 0 rfl) ?_
            refine call_VN_V (As := [.int (nI a), .int (nI (mkL (kf f) a n (lsR n 0)))]) (rest := []) (wr := [(o, .inr (1, [.ref oP, .int (nI n), .ref oA, .ref oL, .ref oR, .int (nI (ru2 + 1)), .int (nI me2), .long (lN mp2), .int (nI gh)])), (oP, .inl (cJ, C, .inr (.inl u_47))), (oA, .inl (cJ, (C / 2), .inr (.inl g2))), (oR, .inl (cI, M, .inl (fun j => nI ((uN_up rl2 ru2 (mkL (kf f) a n (lsR n 0))) j))))]) ⟨hx, hb, hml, hown, hts⟩ (c_X0_push l dC dI cJ cI oL oS oN M ct2 ht2 a (mkL (kf f) a n (lsR n 0)) st2 le2 (by omega) hM2 (by omega)) (⟨va_cnB (host := "PairSorter") 2 hts gX1_run_X0_push_n66 rfl rfl rfl (hN _ (by decide +kernel)) (hts (.initialized RX0) (by decide +kernel)) (by decide +kernel) ⟨Nat.le_of_ble_eq_true rfl, Nat.le_of_ble_eq_true rfl⟩, hts (.instanceMethod yX0_push) (by decide +kernel), hts (.selects RX0 yX0_push yX0_push) (by decide +kernel)⟩) hP hD hK hN hS hA [3, 4, 5] [0, 1, 2, 6] [0, 1] rfl rfl rfl (by decide) (by decide) (by decide) 0 0 rfl rfl rfl rfl hl.1 rfl (Nat.le_of_ble_eq_true rfl) dX1_run_77 (Nat.le_of_ble_eq_true rfl) (Nat.le_of_ble_eq_true rfl) (fun u_77 H locs hw_77 hP hD hK1 hS => ?_)
            refine W.widen (k := 0) (n := 0) (Nat.le_of_ble_eq_true rfl) (Nat.le_of_ble_eq_true rfl) ?_
            have hP : va_P (dC, dI) vwCl [(o, .inr (1, [.ref oP, .int (nI n), .ref oA, .ref oL, .ref oR, .int (nI (ru2 + 1)), .int (nI me2), .long (lN mp2), .int (nI gh)])), (oP, .inl (cJ, C, .inr (.inl u_47))), (oA, .inl (cJ, (C / 2), .inr (.inl g2))), (oL, .inr (0, [.ref oS, .ref oN, .int (nI (ct2 + 1)), .int (nI (max ht2 (ct2 + 1)))])), (oS, .inl (cI, M, .inl (fun j => nI ((uN_up st2 ct2 a) j)))), (oN, .inl (cI, M, .inl (fun j => nI ((uN_up le2 ct2 (mkL (kf f) a n (lsR n 0))) j)))), (oR, .inl (cI, M, .inl (fun j => nI ((uN_up rl2 ru2 (mkL (kf f) a n (lsR n 0))) j))))] H := ct_Psub hP [0, 1, 2, 4, 5, 6, 3] rfl
            have hD : va_D A [(o, .inr (1, [.ref oP, .int (nI n), .ref oA, .ref oL, .ref oR, .int (nI (ru2 + 1)), .int (nI me2), .long (lN mp2), .int (nI gh)])), (oP, .inl (cJ, C, .inr (.inl u_47))), (oA, .inl (cJ, (C / 2), .inr (.inl g2))), (oL, .inr (0, [.ref oS, .ref oN, .int (nI (ct2 + 1)), .int (nI (max ht2 (ct2 + 1)))])), (oS, .inl (cI, M, .inl (fun j => nI ((uN_up st2 ct2 a) j)))), (oN, .inl (cI, M, .inl (fun j => nI ((uN_up le2 ct2 (mkL (kf f) a n (lsR n 0))) j)))), (oR, .inl (cI, M, .inl (fun j => nI ((uN_up rl2 ru2 (mkL (kf f) a n (lsR n 0))) j))))] := hD.sub [0, 1, 2, 4, 5, 6, 3] (by decide) rfl
            refine lv_aload_n hx hb dX1_run_80 rfl (lv_at hl 3 rfl) ?_
            refine call_V_V (As := []) (rest := []) (wr := [(oR, .inl (cI, M, .inl (fun j => nI ((uN_up rl2 ru2 (mkL (kf f) a n (lsR n 0))) j))))]) ⟨hx, hb, hml, hown, hts⟩ (c_X1_bringInOrder l dC dI cJ cI o oP oA oL oR oS oN C M n (ru2 + 1) me2 mp2 gh (ct2 + 1) (max ht2 (ct2 + 1)) u_47 g2 (uN_up st2 ct2 a) (uN_up le2 ct2 (mkL (kf f) a n (lsR n 0))) (a + mkL (kf f) a n (lsR n 0)) (by omega) hM2 (pC_push hc2 h0 hm47.1) (by omega) hC (pS_push hc2 hs2 hk47)) (cwV 0 hts gX1_run_X1_bringInOrder rfl rfl rfl (by decide +kernel) ⟨Nat.le_of_ble_eq_true rfl, Nat.le_of_ble_eq_true rfl⟩) hP hD hK hN hS hA [0, 1, 2, 3, 4, 5] [6] [0, 1] rfl rfl rfl (by decide) (by decide) (by decide) 0 1 rfl rfl rfl rfl hl.1 rfl (Nat.le_of_ble_eq_true rfl) dX1_run_81 (Nat.le_of_ble_eq_true rfl) (Nat.le_of_ble_eq_true rfl) (fun u_81 H locs hw_81 hP hD hK1 hS => ?_)
            refine W.widen (k := 0) (n := 0) (Nat.le_of_ble_eq_true rfl) (Nat.le_of_ble_eq_true rfl) ?_
            obtain ⟨f5, g5, st5⟩ := u_81
            obtain ⟨b1, b2, b3, b4⟩ := hw_81
            have hkp := run_keep hxx hE hk47 b3 b4
            have hbl := brg_le (ct2 + 1) (uN_up le2 ct2 (mkL (kf f) a n (lsR n 0))) me2 mp2
            have hbp := brg_pos (ct2 + 1) (uN_up le2 ct2 (mkL (kf f) a n (lsR n 0))) me2 mp2 (by omega)
            have hP : va_P (dC, dI) vwCl [(o, .inr (1, [.ref oP, .int (nI n), .ref oA, .ref oL, .ref oR, .int (nI (ru2 + 1)), .int (nI ((brg (ct2 + 1) (uN_up le2 ct2 (mkL (kf f) a n (lsR n 0))) me2 mp2).2.2.1)), .long (lN ((brg (ct2 + 1) (uN_up le2 ct2 (mkL (kf f) a n (lsR n 0))) me2 mp2).2.2.2)), .int (nI gh)])), (oP, .inl (cJ, C, .inr (.inl f5))), (oA, .inl (cJ, (C / 2), .inr (.inl g5))), (oL, .inr (0, [.ref oS, .ref oN, .int (nI ((brg (ct2 + 1) (uN_up le2 ct2 (mkL (kf f) a n (lsR n 0))) me2 mp2).2.1)), .int (nI (max ht2 (ct2 + 1)))])), (oS, .inl (cI, M, .inl (fun j => nI (st5 j)))), (oN, .inl (cI, M, .inl (fun j => nI (((brg (ct2 + 1) (uN_up le2 ct2 (mkL (kf f) a n (lsR n 0))) me2 mp2).1) j)))), (oR, .inl (cI, M, .inl (fun j => nI ((uN_up rl2 ru2 (mkL (kf f) a n (lsR n 0))) j))))] H := ct_Psub hP [1, 2, 3, 4, 5, 6, 0] rfl
            have hD : va_D A [(o, .inr (1, [.ref oP, .int (nI n), .ref oA, .ref oL, .ref oR, .int (nI (ru2 + 1)), .int (nI ((brg (ct2 + 1) (uN_up le2 ct2 (mkL (kf f) a n (lsR n 0))) me2 mp2).2.2.1)), .long (lN ((brg (ct2 + 1) (uN_up le2 ct2 (mkL (kf f) a n (lsR n 0))) me2 mp2).2.2.2)), .int (nI gh)])), (oP, .inl (cJ, C, .inr (.inl f5))), (oA, .inl (cJ, (C / 2), .inr (.inl g5))), (oL, .inr (0, [.ref oS, .ref oN, .int (nI ((brg (ct2 + 1) (uN_up le2 ct2 (mkL (kf f) a n (lsR n 0))) me2 mp2).2.1)), .int (nI (max ht2 (ct2 + 1)))])), (oS, .inl (cI, M, .inl (fun j => nI (st5 j)))), (oN, .inl (cI, M, .inl (fun j => nI (((brg (ct2 + 1) (uN_up le2 ct2 (mkL (kf f) a n (lsR n 0))) me2 mp2).1) j)))), (oR, .inl (cI, M, .inl (fun j => nI ((uN_up rl2 ru2 (mkL (kf f) a n (lsR n 0))) j))))] := hD.sub [1, 2, 3, 4, 5, 6, 0] (by decide) rfl
            refine lv_iload_n hx hb dX1_run_84 rfl (lv_at hl 1 rfl) ?_
            refine lv_iload_n hx hb dX1_run_85 rfl (lv_at hl 0 rfl) ?_
            refine xr_iadd hx hb dX1_run_86 ?_
            refine lv_istore_n (lv' := [(2, .int (nI (a + (mkL (kf f) a n (lsR n 0))))), (3, .int (nI (mkL (kf f) a n (lsR n 0)))), (1, .int (nI (lsR n 0))), (0, .ref o)]) hx hb dX1_run_87 rfl hl (by decide) rfl (fun ls hl => ?_)
            refine lv_goto (tgt := 24) hx hb dX1_run_88 (by decide) ?_
            exact ih_r (a + mkL (kf f) a n (lsR n 0)) (brg (ct2 + 1) (uN_up le2 ct2 (mkL (kf f) a n (lsR n 0))) me2 mp2).2.1 (ru2 + 1) (brg (ct2 + 1) (uN_up le2 ct2 (mkL (kf f) a n (lsR n 0))) me2 mp2).2.2.1 (brg (ct2 + 1) (uN_up le2 ct2 (mkL (kf f) a n (lsR n 0))) me2 mp2).2.2.2 (max ht2 (ct2 + 1)) f5 g5 st5 (brg (ct2 + 1) (uN_up le2 ct2 (mkL (kf f) a n (lsR n 0))) me2 mp2).1 (uN_up rl2 ru2 (mkL (kf f) a n (lsR n 0))) hm47.2 b1 (fun h => absurd h (by omega)) b2 hkp.1 hkp.2 (by rw [← hT, rsF_s c_29]) (by omega) (by omega) (fun h => by have h8 := h16 c_29; unfold mkL at h hm47 ⊢; omega) (by omega) (fun _ => hbp) (by omega) (by omega) _ _ _ hP hD hS (lv_sub hl [0, 2, 3] rfl)
    exact L_r (_ + 1) 0 0 0 0 0 0 f g st le rl (Nat.zero_le _) ⟨fun i hi => absurd hi (by omega), fun hi => absurd hi (by omega), fun i hi => absurd hi (by omega)⟩ (fun _ => rfl) (fun i hi => absurd hi (by omega)) (fun _ _ => rfl) (sE_refl _) rfl (Nat.le_refl _) (Nat.le_refl _) (fun _ => Nat.le_refl _) (Nat.le_refl _) (fun hi => absurd hi (by omega)) (Nat.zero_le _) (Nat.lt_succ_self _) _ _ _ hP hD hS (lv_sub hl [0, 1, 2] rfl)
  · refine lv_iconst (v := nI 0) hx hb dX1_run_12 (by decide) ?_
    exact hret (f, g, st, le, 0, 0, rl, 0, 0, 0, gh) _ _ _ _ _ _ _ (⟨rfl, by unfold rnQ; rw [if_pos c_9], (Nat.max_zero gh).symm, fun i j _ g1 g2 => absurd g2 (by omega), sE_refl _, Nat.zero_le _⟩) hP hK hD hS (Nat.le_of_ble_eq_true rfl) (Nat.le_of_ble_eq_true rfl) (rfl) dX1_run_13

abbrev rmX2_join : Room := { frames := 0, cells := 0, slots := 0, locals := 0 }
set_option maxRecDepth 100000 in
set_option maxHeartbeats 4000000 in
theorem c_X2_join (l : Launch) (dC : Nat → ClassId) (dI : Nat → Nat → Nat) (cJ cI : ClassId) (m0 mK mT mU mV mL mS th cap n hi ru me mp pd ht : Nat) (pi : Nat → Nat) (k9 : Nat) (hp : k9 + 1 < pd) (hpd : pd ≤ 200) (hb1 : pi k9 ≤ 4096) (hb2 : pi (k9 + 1) ≤ 4096) : CV l yX2_join wsX2_join rmX2_join [.ref m0, .int (nI k9)] (dC, dI) vwCl (KT cJ cI) [(m0, .inr (2, [.int (nI th), .int (nI cap), .ref mK, .ref mT, .ref mU, .ref mV, .int (nI n), .int (nI hi), .int (nI ru), .ref mL, .int (nI me), .long (lN mp), .ref mS, .int (nI pd), .int (nI ht)])), (mS, .inl (cI, 200, .inl (fun j => nI (pi j))))] (S := Unit) (fun _ => True) (fun _ => KT cJ cI) (fun _ => [(m0, .inr (2, [.int (nI th), .int (nI cap), .ref mK, .ref mT, .ref mU, .ref mV, .int (nI n), .int (nI hi), .int (nI ru), .ref mL, .int (nI (me + 1)), .long (lN (mp + (pi k9 + pi (k9 + 1)))), .ref mS, .int (nI (pd - 1)), .int (nI ht)])), (mS, .inl (cI, 200, .inl (fun j => nI ((jn pi pd k9) j))))]) := by
  refine CV.mk (by decide) rfl (Nat.le_of_ble_eq_true rfl) ?_
  intro p e s m args below meth c A Q ls hx hb hml hown hts hin hA hS hP hD hK hN hl hret
  have hl : lv_has ls 3 [(0, .ref m0), (1, .int (nI k9))] := hl
  have hin_2 : ∀ w ∈ u_ws RX2 TX2 15, w ∈ wsX2_join := by decide +kernel
  have k_1 := hts (Cond.fieldLink RX2 38 "PairSorterModel" "merges" "I") (by decide +kernel)
  have k_2 := hts (Cond.fieldLink RX2 41 "PairSorterModel" "merged" "J") (by decide +kernel)
  have k_3 := hts (Cond.fieldLink RX2 25 "PairSorterModel" "pile" "[I") (by decide +kernel)
  have k_4 := hts (Cond.fieldLink RX2 45 "PairSorterModel" "piled" "I") (by decide +kernel)
  refine lv_aload_n hx hb dX2_join_0 rfl (lv_at hl 0 rfl) ?_
  refine lv_dup hx hb dX2_join_1 rfl ?_
  refine va_get (D := (dC, dI)) (ci := 2) (v := .int (nI me)) (C := RX2) (T := TX2) (N := 15) hx hb hts hin_2 hown hK hP 0 rfl rfl 10 (by decide) k_1 (fun _ h9 => h9) rfl dX2_join_2 ?_
  refine lv_iconst (v := nI 1) hx hb dX2_join_5 (by decide) ?_
  refine xr_iadd hx hb dX2_join_6 ?_
  refine va_put (D := (dC, dI)) (ci := 2) (v := .int (nI (me + 1))) (ty := .int) (C := RX2) (T := TX2) (N := 15) hx hb hts hin_2 tyX2 tyX2_ok nmX2 hown hK hP hD hS 0 rfl rfl 10 (by decide) k_1 (fun _ h9 => h9) rfl (by decide +kernel) rfl rfl (Nat.le_of_ble_eq_true rfl) dX2_join_7 (fun H locs hP hD hS => ?_)
  have hP : va_P (dC, dI) vwCl [(m0, .inr (2, [.int (nI th), .int (nI cap), .ref mK, .ref mT, .ref mU, .ref mV, .int (nI n), .int (nI hi), .int (nI ru), .ref mL, .int (nI (me + 1)), .long (lN mp), .ref mS, .int (nI pd), .int (nI ht)])), (mS, .inl (cI, 200, .inl (fun j => nI (pi j))))] H := hP
  have hD : va_D A [(m0, .inr (2, [.int (nI th), .int (nI cap), .ref mK, .ref mT, .ref mU, .ref mV, .int (nI n), .int (nI hi), .int (nI ru), .ref mL, .int (nI (me + 1)), .long (lN mp), .ref mS, .int (nI pd), .int (nI ht)])), (mS, .inl (cI, 200, .inl (fun j => nI (pi j))))] := hD
  refine lv_aload_n hx hb dX2_join_10 rfl (lv_at hl 0 rfl) ?_
  refine lv_aload_n hx hb dX2_join_11 rfl (lv_at hl 0 rfl) ?_
  refine va_get (D := (dC, dI)) (ci := 2) (v := .long (lN mp)) (C := RX2) (T := TX2) (N := 15) hx hb hts hin_2 hown hK hP 0 rfl rfl 11 (by decide) k_2 (fun _ h9 => h9) rfl dX2_join_12 ?_
  refine lv_aload_n hx hb dX2_join_15 rfl (lv_at hl 0 rfl) ?_
  refine va_get (D := (dC, dI)) (ci := 2) (v := .ref mS) (C := RX2) (T := TX2) (N := 15) hx hb hts hin_2 hown hK hP 0 rfl rfl 12 (by decide) k_3 (fun _ h9 => h9) rfl dX2_join_16 ?_
  refine lv_iload_n hx hb dX2_join_19 rfl (lv_at hl 1 rfl) ?_
  refine xr_iald hx hb hK hP 1 1 rfl rfl (by omega) (by omega) dX2_join_20 ?_
  refine xr_top (y := nI (pi k9)) rfl ?_
  refine lv_i2l hx hb dX2_join_21 rfl ?_
  refine xr_topl (y := lN (pi k9)) (nI_l (by omega)) ?_
  refine lv_ladd hx hb dX2_join_22 ?_
  refine xr_topl (y := lN (mp + pi k9)) (lN_add _ _) ?_
  refine lv_aload_n hx hb dX2_join_23 rfl (lv_at hl 0 rfl) ?_
  refine va_get (D := (dC, dI)) (ci := 2) (v := .ref mS) (C := RX2) (T := TX2) (N := 15) hx hb hts hin_2 hown hK hP 0 rfl rfl 12 (by decide) k_3 (fun _ h9 => h9) rfl dX2_join_24 ?_
  refine lv_iload_n hx hb dX2_join_27 rfl (lv_at hl 1 rfl) ?_
  refine lv_iconst (v := nI 1) hx hb dX2_join_28 (by decide) ?_
  refine xr_iadd hx hb dX2_join_29 ?_
  refine xr_iald hx hb hK hP 1 1 rfl rfl (by omega) (by omega) dX2_join_30 ?_
  refine xr_top (y := nI (pi (k9 + 1))) rfl ?_
  refine lv_i2l hx hb dX2_join_31 rfl ?_
  refine xr_topl (y := lN (pi (k9 + 1))) (nI_l (by omega)) ?_
  refine lv_ladd hx hb dX2_join_32 ?_
  refine xr_topl (y := lN (mp + (pi k9 + pi (k9 + 1)))) ((lN_add _ _).trans (by rw [Nat.add_assoc])) ?_
  refine va_put (D := (dC, dI)) (ci := 2) (v := .long (lN (mp + (pi k9 + pi (k9 + 1))))) (ty := .long) (C := RX2) (T := TX2) (N := 15) hx hb hts hin_2 tyX2 tyX2_ok nmX2 hown hK hP hD hS 0 rfl rfl 11 (by decide) k_2 (fun _ h9 => h9) rfl (by decide +kernel) rfl rfl (Nat.le_of_ble_eq_true rfl) dX2_join_33 (fun H locs hP hD hS => ?_)
  have hP : va_P (dC, dI) vwCl [(m0, .inr (2, [.int (nI th), .int (nI cap), .ref mK, .ref mT, .ref mU, .ref mV, .int (nI n), .int (nI hi), .int (nI ru), .ref mL, .int (nI (me + 1)), .long (lN (mp + (pi k9 + pi (k9 + 1)))), .ref mS, .int (nI pd), .int (nI ht)])), (mS, .inl (cI, 200, .inl (fun j => nI (pi j))))] H := hP
  have hD : va_D A [(m0, .inr (2, [.int (nI th), .int (nI cap), .ref mK, .ref mT, .ref mU, .ref mV, .int (nI n), .int (nI hi), .int (nI ru), .ref mL, .int (nI (me + 1)), .long (lN (mp + (pi k9 + pi (k9 + 1)))), .ref mS, .int (nI pd), .int (nI ht)])), (mS, .inl (cI, 200, .inl (fun j => nI (pi j))))] := hD
  refine lv_aload_n hx hb dX2_join_36 rfl (lv_at hl 0 rfl) ?_
  refine va_get (D := (dC, dI)) (ci := 2) (v := .ref mS) (C := RX2) (T := TX2) (N := 15) hx hb hts hin_2 hown hK hP 0 rfl rfl 12 (by decide) k_3 (fun _ h9 => h9) rfl dX2_join_37 ?_
  refine lv_iload_n hx hb dX2_join_40 rfl (lv_at hl 1 rfl) ?_
  refine lv_aload_n hx hb dX2_join_41 rfl (lv_at hl 0 rfl) ?_
  refine va_get (D := (dC, dI)) (ci := 2) (v := .ref mS) (C := RX2) (T := TX2) (N := 15) hx hb hts hin_2 hown hK hP 0 rfl rfl 12 (by decide) k_3 (fun _ h9 => h9) rfl dX2_join_42 ?_
  refine lv_iload_n hx hb dX2_join_45 rfl (lv_at hl 1 rfl) ?_
  refine xr_iald hx hb hK hP 1 1 rfl rfl (by omega) (by omega) dX2_join_46 ?_
  refine xr_top (y := nI (pi k9)) rfl ?_
  refine lv_aload_n hx hb dX2_join_47 rfl (lv_at hl 0 rfl) ?_
  refine va_get (D := (dC, dI)) (ci := 2) (v := .ref mS) (C := RX2) (T := TX2) (N := 15) hx hb hts hin_2 hown hK hP 0 rfl rfl 12 (by decide) k_3 (fun _ h9 => h9) rfl dX2_join_48 ?_
  refine lv_iload_n hx hb dX2_join_51 rfl (lv_at hl 1 rfl) ?_
  refine lv_iconst (v := nI 1) hx hb dX2_join_52 (by decide) ?_
  refine xr_iadd hx hb dX2_join_53 ?_
  refine xr_iald hx hb hK hP 1 1 rfl rfl (by omega) (by omega) dX2_join_54 ?_
  refine xr_top (y := nI (pi (k9 + 1))) rfl ?_
  refine xr_iadd hx hb dX2_join_55 ?_
  refine xr_iastN hx hb hK hP hD hS 1 1 rfl rfl (by omega) (by omega) dX2_join_56 (fun H locs hP hD hS => ?_)
  have hP : va_P (dC, dI) vwCl [(m0, .inr (2, [.int (nI th), .int (nI cap), .ref mK, .ref mT, .ref mU, .ref mV, .int (nI n), .int (nI hi), .int (nI ru), .ref mL, .int (nI (me + 1)), .long (lN (mp + (pi k9 + pi (k9 + 1)))), .ref mS, .int (nI pd), .int (nI ht)])), (mS, .inl (cI, 200, .inl (fun j => nI ((uN_up pi k9 (pi k9 + (pi (k9 + 1)))) j))))] H := hP
  have hD : va_D A [(m0, .inr (2, [.int (nI th), .int (nI cap), .ref mK, .ref mT, .ref mU, .ref mV, .int (nI n), .int (nI hi), .int (nI ru), .ref mL, .int (nI (me + 1)), .long (lN (mp + (pi k9 + pi (k9 + 1)))), .ref mS, .int (nI pd), .int (nI ht)])), (mS, .inl (cI, 200, .inl (fun j => nI ((uN_up pi k9 (pi k9 + (pi (k9 + 1)))) j))))] := hD
  refine lv_iload_n hx hb dX2_join_57 rfl (lv_at hl 1 rfl) ?_
  refine lv_iconst (v := nI 1) hx hb dX2_join_58 (by decide) ?_
  refine xr_iadd hx hb dX2_join_59 ?_
  refine lv_istore_n (lv' := [(2, .int (nI (k9 + 1))), (0, .ref m0), (1, .int (nI k9))]) hx hb dX2_join_60 rfl hl (by decide) rfl (fun ls hl => ?_)
  have L_j : ∀ (kq : Nat) (i : Nat), (k9 + 1 ≤ i) → (i ≤ pd - 1) → pd - 1 - i < kq → ∀ (H : Heap) (locs : List Loc) (ls : Array Slot), va_P (dC, dI) vwCl [(m0, .inr (2, [.int (nI th), .int (nI cap), .ref mK, .ref mT, .ref mU, .ref mV, .int (nI n), .int (nI hi), .int (nI ru), .ref mL, .int (nI (me + 1)), .long (lN (mp + (pi k9 + pi (k9 + 1)))), .ref mS, .int (nI pd), .int (nI ht)])), (mS, .inl (cI, 200, .inl (fun j => nI ((shf (uN_up pi k9 (pi k9 + pi (k9 + 1))) (k9 + 1) i) j))))] H → va_D A [(m0, .inr (2, [.int (nI th), .int (nI cap), .ref mK, .ref mT, .ref mU, .ref mV, .int (nI n), .int (nI hi), .int (nI ru), .ref mL, .int (nI (me + 1)), .long (lN (mp + (pi k9 + pi (k9 + 1)))), .ref mS, .int (nI pd), .int (nI ht)])), (mS, .inl (cI, 200, .inl (fun j => nI ((shf (uN_up pi k9 (pi k9 + pi (k9 + 1))) (k9 + 1) i) j))))] → va_S A s.heap H locs → lv_has ls 3 [(2, .int (nI i)), (0, .ref m0), (1, .int (nI k9))] → W p l e rmX2_join s m args below meth c H locs 0 0 Q (F0 m 61 ls []) := by
    intro kq
    induction kq with
    | zero =>
      intro i h1 h2 hm
      exact absurd hm (Nat.not_lt_zero _)
    | succ kq ih_j =>
      intro i h1 h2 hm H locs ls hP hD hS hl
      refine lv_iload_n hx hb dX2_join_61 rfl (lv_at hl 0 rfl) ?_
      refine lv_iconst (v := nI 1) hx hb dX2_join_62 (by decide) ?_
      refine xr_iadd hx hb dX2_join_63 ?_
      refine lv_aload_n hx hb dX2_join_64 rfl (lv_at hl 1 rfl) ?_
      refine va_get (D := (dC, dI)) (ci := 2) (v := .int (nI pd)) (C := RX2) (T := TX2) (N := 15) hx hb hts hin_2 hown hK hP 0 rfl rfl 13 (by decide) k_4 (fun _ h9 => h9) rfl dX2_join_65 ?_
      refine xr_icmp_ge (tgt := 91) hx hb dX2_join_68 (by decide) (by omega) (by omega) (fun c_68 => ?_) (fun c_68 => ?_)
      · have hi9 : i = pd - 1 := by omega
        rw [hi9] at hP hD
        refine lv_aload_n hx hb dX2_join_91 rfl (lv_at hl 1 rfl) ?_
        refine lv_dup hx hb dX2_join_92 rfl ?_
        refine va_get (D := (dC, dI)) (ci := 2) (v := .int (nI pd)) (C := RX2) (T := TX2) (N := 15) hx hb hts hin_2 hown hK hP 0 rfl rfl 13 (by decide) k_4 (fun _ h9 => h9) rfl dX2_join_93 ?_
        refine lv_iconst (v := nI 1) hx hb dX2_join_96 (by decide) ?_
        refine xr_isub hx hb dX2_join_97 (by omega) ?_
        refine va_put (D := (dC, dI)) (ci := 2) (v := .int (nI (pd - 1))) (ty := .int) (C := RX2) (T := TX2) (N := 15) hx hb hts hin_2 tyX2 tyX2_ok nmX2 hown hK hP hD hS 0 rfl rfl 13 (by decide) k_4 (fun _ h9 => h9) rfl (by decide +kernel) rfl rfl (Nat.le_of_ble_eq_true rfl) dX2_join_98 (fun H locs hP hD hS => ?_)
        have hP : va_P (dC, dI) vwCl [(m0, .inr (2, [.int (nI th), .int (nI cap), .ref mK, .ref mT, .ref mU, .ref mV, .int (nI n), .int (nI hi), .int (nI ru), .ref mL, .int (nI (me + 1)), .long (lN (mp + (pi k9 + pi (k9 + 1)))), .ref mS, .int (nI (pd - 1)), .int (nI ht)])), (mS, .inl (cI, 200, .inl (fun j => nI ((shf (uN_up pi k9 (pi k9 + pi (k9 + 1))) (k9 + 1) (pd - 1)) j))))] H := hP
        have hD : va_D A [(m0, .inr (2, [.int (nI th), .int (nI cap), .ref mK, .ref mT, .ref mU, .ref mV, .int (nI n), .int (nI hi), .int (nI ru), .ref mL, .int (nI (me + 1)), .long (lN (mp + (pi k9 + pi (k9 + 1)))), .ref mS, .int (nI (pd - 1)), .int (nI ht)])), (mS, .inl (cI, 200, .inl (fun j => nI ((shf (uN_up pi k9 (pi k9 + pi (k9 + 1))) (k9 + 1) (pd - 1)) j))))] := hD
        exact hret () _ _ _ _ _ _ (trivial) hP hK hD hS (Nat.le_of_ble_eq_true rfl) (Nat.le_of_ble_eq_true rfl) dX2_join_101
      · refine lv_aload_n hx hb dX2_join_71 rfl (lv_at hl 1 rfl) ?_
        refine va_get (D := (dC, dI)) (ci := 2) (v := .ref mS) (C := RX2) (T := TX2) (N := 15) hx hb hts hin_2 hown hK hP 0 rfl rfl 12 (by decide) k_3 (fun _ h9 => h9) rfl dX2_join_72 ?_
        refine lv_iload_n hx hb dX2_join_75 rfl (lv_at hl 0 rfl) ?_
        refine lv_aload_n hx hb dX2_join_76 rfl (lv_at hl 1 rfl) ?_
        refine va_get (D := (dC, dI)) (ci := 2) (v := .ref mS) (C := RX2) (T := TX2) (N := 15) hx hb hts hin_2 hown hK hP 0 rfl rfl 12 (by decide) k_3 (fun _ h9 => h9) rfl dX2_join_77 ?_
        refine lv_iload_n hx hb dX2_join_80 rfl (lv_at hl 0 rfl) ?_
        refine lv_iconst (v := nI 1) hx hb dX2_join_81 (by decide) ?_
        refine xr_iadd hx hb dX2_join_82 ?_
        refine xr_iald hx hb hK hP 1 1 rfl rfl (by omega) (by omega) dX2_join_83 ?_
        refine xr_top (y := nI ((shf (uN_up pi k9 (pi k9 + pi (k9 + 1))) (k9 + 1) i) (i + 1))) rfl ?_
        refine xr_iastN hx hb hK hP hD hS 1 1 rfl rfl (by omega) (by omega) dX2_join_84 (fun H locs hP hD hS => ?_)
        have hP : va_P (dC, dI) vwCl [(m0, .inr (2, [.int (nI th), .int (nI cap), .ref mK, .ref mT, .ref mU, .ref mV, .int (nI n), .int (nI hi), .int (nI ru), .ref mL, .int (nI (me + 1)), .long (lN (mp + (pi k9 + pi (k9 + 1)))), .ref mS, .int (nI pd), .int (nI ht)])), (mS, .inl (cI, 200, .inl (fun j => nI ((uN_up (shf (uN_up pi k9 (pi k9 + pi (k9 + 1))) (k9 + 1) i) i ((shf (uN_up pi k9 (pi k9 + pi (k9 + 1))) (k9 + 1) i) (i + 1))) j))))] H := hP
        have hD : va_D A [(m0, .inr (2, [.int (nI th), .int (nI cap), .ref mK, .ref mT, .ref mU, .ref mV, .int (nI n), .int (nI hi), .int (nI ru), .ref mL, .int (nI (me + 1)), .long (lN (mp + (pi k9 + pi (k9 + 1)))), .ref mS, .int (nI pd), .int (nI ht)])), (mS, .inl (cI, 200, .inl (fun j => nI ((uN_up (shf (uN_up pi k9 (pi k9 + pi (k9 + 1))) (k9 + 1) i) i ((shf (uN_up pi k9 (pi k9 + pi (k9 + 1))) (k9 + 1) i) (i + 1))) j))))] := hD
        refine lv_iinc (v := nI (i + 1)) (lv' := [(2, .int (nI (i + 1))), (0, .ref m0), (1, .int (nI k9))]) hx hb dX2_join_85 hl (k := 0) rfl (nI_add i 1) (by decide) rfl (fun ls hl => ?_)
        refine lv_goto (tgt := 61) hx hb dX2_join_88 (by decide) ?_
        exact ih_j (i + 1) (by omega) (by omega) (by omega) _ _ _ (by rw [← shf_s (uN_up pi k9 (pi k9 + pi (k9 + 1))) h1]; exact hP) (by rw [← shf_s (uN_up pi k9 (pi k9 + pi (k9 + 1))) h1]; exact hD) hS (lv_sub hl [0, 1, 2] rfl)
  exact L_j (_ + 1) (k9 + 1) (by omega) (by omega) (Nat.lt_succ_self _) _ _ _ (by rw [shf_0]; exact hP) (by rw [shf_0]; exact hD) hS (lv_sub hl [0, 1, 2] rfl)
abbrev rmX2_fromTop : Room := { frames := 0, cells := 0, slots := 0, locals := 0 }
set_option maxRecDepth 100000 in
set_option maxHeartbeats 4000000 in
theorem c_X2_fromTop (l : Launch) (dC : Nat → ClassId) (dI : Nat → Nat → Nat) (cJ cI : ClassId) (m0 mK mT mU mV mL mS th cap n hi ru me mp pd ht : Nat) (pi : Nat → Nat) (k9 : Nat) (hk : k9 < pd) (hpd : pd ≤ 200) : CI l yX2_fromTop wsX2_fromTop rmX2_fromTop [.ref m0, .int (nI k9)] (dC, dI) vwCl (KT cJ cI) [(m0, .inr (2, [.int (nI th), .int (nI cap), .ref mK, .ref mT, .ref mU, .ref mV, .int (nI n), .int (nI hi), .int (nI ru), .ref mL, .int (nI me), .long (lN mp), .ref mS, .int (nI pd), .int (nI ht)])), (mS, .inl (cI, 200, .inl (fun j => nI (pi j))))] (S := Unit) (fun r _ => r = nI (pi (pd - 1 - k9))) (fun _ => KT cJ cI) (fun _ => [(m0, .inr (2, [.int (nI th), .int (nI cap), .ref mK, .ref mT, .ref mU, .ref mV, .int (nI n), .int (nI hi), .int (nI ru), .ref mL, .int (nI me), .long (lN mp), .ref mS, .int (nI pd), .int (nI ht)])), (mS, .inl (cI, 200, .inl (fun j => nI (pi j))))]) := by
  refine CI.mk (by decide) rfl (Nat.le_of_ble_eq_true rfl) ?_
  intro p e s m args below meth c A Q ls hx hb hml hown hts hA hS hP hD hK hN hl hret
  have hl : lv_has ls 2 [(0, .ref m0), (1, .int (nI k9))] := hl
  have hin_2 : ∀ w ∈ u_ws RX2 TX2 15, w ∈ wsX2_fromTop := by decide +kernel
  have k_1 := hts (Cond.fieldLink RX2 25 "PairSorterModel" "pile" "[I") (by decide +kernel)
  have k_2 := hts (Cond.fieldLink RX2 45 "PairSorterModel" "piled" "I") (by decide +kernel)
  refine lv_aload_n hx hb dX2_fromTop_0 rfl (lv_at hl 0 rfl) ?_
  refine va_get (D := (dC, dI)) (ci := 2) (v := .ref mS) (C := RX2) (T := TX2) (N := 15) hx hb hts hin_2 hown hK hP 0 rfl rfl 12 (by decide) k_1 (fun _ h9 => h9) rfl dX2_fromTop_1 ?_
  refine lv_aload_n hx hb dX2_fromTop_4 rfl (lv_at hl 0 rfl) ?_
  refine va_get (D := (dC, dI)) (ci := 2) (v := .int (nI pd)) (C := RX2) (T := TX2) (N := 15) hx hb hts hin_2 hown hK hP 0 rfl rfl 13 (by decide) k_2 (fun _ h9 => h9) rfl dX2_fromTop_5 ?_
  refine lv_iconst (v := nI 1) hx hb dX2_fromTop_8 (by decide) ?_
  refine xr_isub hx hb dX2_fromTop_9 (by omega) ?_
  refine lv_iload_n hx hb dX2_fromTop_10 rfl (lv_at hl 1 rfl) ?_
  refine xr_isub hx hb dX2_fromTop_11 (by omega) ?_
  refine xr_iald hx hb hK hP 1 1 rfl rfl (by omega) (by omega) dX2_fromTop_12 ?_
  refine xr_top (y := nI (pi (pd - 1 - k9))) rfl ?_
  exact hret () _ _ _ _ _ _ _ (rfl) hP hK hD hS (Nat.le_of_ble_eq_true rfl) (Nat.le_of_ble_eq_true rfl) (rfl) dX2_fromTop_13
abbrev rmX2_isBrought : Room := { frames := 1, cells := 0, slots := 0, locals := 22 }
set_option maxRecDepth 100000 in
set_option maxHeartbeats 4000000 in
theorem c_X2_isBrought (l : Launch) (dC : Nat → ClassId) (dI : Nat → Nat → Nat) (cJ cI : ClassId) (m0 mK mT mU mV mL mS th cap n hi ru me mp pd ht : Nat) (pi : Nat → Nat) (hpd : pd ≤ 200) (hle : ∀ j, j < pd → pi j ≤ 4096) : CI l yX2_isBrought wsX2_isBrought rmX2_isBrought [.ref m0] (dC, dI) vwCl (KT cJ cI) [(m0, .inr (2, [.int (nI th), .int (nI cap), .ref mK, .ref mT, .ref mU, .ref mV, .int (nI n), .int (nI hi), .int (nI ru), .ref mL, .int (nI me), .long (lN mp), .ref mS, .int (nI pd), .int (nI ht)])), (mS, .inl (cI, 200, .inl (fun j => nI (pi j))))] (S := Nat × Nat × Nat × (Nat → Nat)) (fun r u => (nxP pi pd = none ∧ r = nI 0 ∧ u = (me, mp, pd, pi)) ∨ (∃ q, nxP pi pd = some q ∧ r = nI 1 ∧ u = (me + 1, mp + (pi q + pi (q + 1)), pd - 1, jn pi pd q))) (fun _ => KT cJ cI) (fun u => [(m0, .inr (2, [.int (nI th), .int (nI cap), .ref mK, .ref mT, .ref mU, .ref mV, .int (nI n), .int (nI hi), .int (nI ru), .ref mL, .int (nI u.1), .long (lN u.2.1), .ref mS, .int (nI u.2.2.1), .int (nI ht)])), (mS, .inl (cI, 200, .inl (fun j => nI (u.2.2.2 j))))]) := by
  refine CI.mk (by decide) rfl (Nat.le_of_ble_eq_true rfl) ?_
  intro p e s m args below meth c A Q ls hx hb hml hown hts hA hS hP hD hK hN hl hret
  have hl : lv_has ls 4 [(0, .ref m0)] := hl
  have hin_2 : ∀ w ∈ u_ws RX2 TX2 15, w ∈ wsX2_isBrought := by decide +kernel
  have k_1 := hts (Cond.fieldLink RX2 45 "PairSorterModel" "piled" "I") (by decide +kernel)
  refine lv_aload_n hx hb dX2_isBrought_0 rfl (lv_at hl 0 rfl) ?_
  refine va_get (D := (dC, dI)) (ci := 2) (v := .int (nI pd)) (C := RX2) (T := TX2) (N := 15) hx hb hts hin_2 hown hK hP 0 rfl rfl 13 (by decide) k_1 (fun _ h9 => h9) rfl dX2_isBrought_1 ?_
  refine lv_iconst (v := nI 2) hx hb dX2_isBrought_4 (by decide) ?_
  refine xr_icmp_ge (tgt := 10) hx hb dX2_isBrought_5 (by decide) (by omega) (by omega) (fun c_5 => ?_) (fun c_5 => ?_)
  · refine lv_aload_n hx hb dX2_isBrought_10 rfl (lv_at hl 0 rfl) ?_
    refine lv_iconst (v := nI 0) hx hb dX2_isBrought_11 (by decide) ?_
    refine call_V_I (As := [.int (nI 0)]) (rest := []) (wr := []) ⟨hx, hb, hml, hown, hts⟩ (c_X2_fromTop l dC dI cJ cI m0 mK mT mU mV mL mS th cap n hi ru me mp pd ht pi 0 (by omega) (by omega)) (cwV 1 hts gX2_isBrought_X2_fromTop rfl rfl rfl (by decide +kernel) ⟨Nat.le_of_ble_eq_true rfl, Nat.le_of_ble_eq_true rfl⟩) hP hD hK hN hS hA [0, 1] [] [0, 1] rfl rfl rfl (by decide) (by decide) (by decide) 0 2 rfl rfl rfl rfl hl.1 rfl (Nat.le_of_ble_eq_true rfl) dX2_isBrought_12 (Nat.le_of_ble_eq_true rfl) (Nat.le_of_ble_eq_true rfl) (fun r_12 u_12 H locs hw_12 hP hD hK1 hS => ?_)
    refine W.widen (k := 0) (n := 0) (Nat.le_of_ble_eq_true rfl) (Nat.le_of_ble_eq_true rfl) ?_
    have hP : va_P (dC, dI) vwCl [(m0, .inr (2, [.int (nI th), .int (nI cap), .ref mK, .ref mT, .ref mU, .ref mV, .int (nI n), .int (nI hi), .int (nI ru), .ref mL, .int (nI me), .long (lN mp), .ref mS, .int (nI pd), .int (nI ht)])), (mS, .inl (cI, 200, .inl (fun j => nI (pi j))))] H := ct_Psub hP [0, 1] rfl
    have hD : va_D A [(m0, .inr (2, [.int (nI th), .int (nI cap), .ref mK, .ref mT, .ref mU, .ref mV, .int (nI n), .int (nI hi), .int (nI ru), .ref mL, .int (nI me), .long (lN mp), .ref mS, .int (nI pd), .int (nI ht)])), (mS, .inl (cI, 200, .inl (fun j => nI (pi j))))] := hD.sub [0, 1] (by decide) rfl
    refine xr_top (y := nI (pi (pd - 1))) (hw_12.trans (by rw [show pd - 1 - 0 = pd - 1 by omega])) ?_
    have b12 := hle (pd - 1) (by omega)
    refine lv_istore_n (lv' := [(1, .int (nI (pi (pd - 1)))), (0, .ref m0)]) hx hb dX2_isBrought_15 rfl hl (by decide) rfl (fun ls hl => ?_)
    refine lv_aload_n hx hb dX2_isBrought_16 rfl (lv_at hl 1 rfl) ?_
    refine lv_iconst (v := nI 1) hx hb dX2_isBrought_17 (by decide) ?_
    refine call_V_I (As := [.int (nI 1)]) (rest := []) (wr := []) ⟨hx, hb, hml, hown, hts⟩ (c_X2_fromTop l dC dI cJ cI m0 mK mT mU mV mL mS th cap n hi ru me mp pd ht pi 1 (by omega) (by omega)) (cwV 1 hts gX2_isBrought_X2_fromTop rfl rfl rfl (by decide +kernel) ⟨Nat.le_of_ble_eq_true rfl, Nat.le_of_ble_eq_true rfl⟩) hP hD hK hN hS hA [0, 1] [] [0, 1] rfl rfl rfl (by decide) (by decide) (by decide) 0 2 rfl rfl rfl rfl hl.1 rfl (Nat.le_of_ble_eq_true rfl) dX2_isBrought_18 (Nat.le_of_ble_eq_true rfl) (Nat.le_of_ble_eq_true rfl) (fun r_18 u_18 H locs hw_18 hP hD hK1 hS => ?_)
    refine W.widen (k := 0) (n := 0) (Nat.le_of_ble_eq_true rfl) (Nat.le_of_ble_eq_true rfl) ?_
    have hP : va_P (dC, dI) vwCl [(m0, .inr (2, [.int (nI th), .int (nI cap), .ref mK, .ref mT, .ref mU, .ref mV, .int (nI n), .int (nI hi), .int (nI ru), .ref mL, .int (nI me), .long (lN mp), .ref mS, .int (nI pd), .int (nI ht)])), (mS, .inl (cI, 200, .inl (fun j => nI (pi j))))] H := ct_Psub hP [0, 1] rfl
    have hD : va_D A [(m0, .inr (2, [.int (nI th), .int (nI cap), .ref mK, .ref mT, .ref mU, .ref mV, .int (nI n), .int (nI hi), .int (nI ru), .ref mL, .int (nI me), .long (lN mp), .ref mS, .int (nI pd), .int (nI ht)])), (mS, .inl (cI, 200, .inl (fun j => nI (pi j))))] := hD.sub [0, 1] (by decide) rfl
    refine xr_top (y := nI (pi (pd - 2))) (hw_18.trans (by rw [show pd - 1 - 1 = pd - 2 by omega])) ?_
    have b18 := hle (pd - 2) (by omega)
    refine lv_istore_n (lv' := [(2, .int (nI (pi (pd - 2)))), (1, .int (nI (pi (pd - 1)))), (0, .ref m0)]) hx hb dX2_isBrought_21 rfl hl (by decide) rfl (fun ls hl => ?_)
    refine lv_aload_n hx hb dX2_isBrought_22 rfl (lv_at hl 2 rfl) ?_
    refine va_get (D := (dC, dI)) (ci := 2) (v := .int (nI pd)) (C := RX2) (T := TX2) (N := 15) hx hb hts hin_2 hown hK hP 0 rfl rfl 13 (by decide) k_1 (fun _ h9 => h9) rfl dX2_isBrought_23 ?_
    refine lv_iconst (v := nI 2) hx hb dX2_isBrought_26 (by decide) ?_
    refine xr_icmp_le (tgt := 41) hx hb dX2_isBrought_27 (by decide) (by omega) (by omega) (fun c_27 => ?_) (fun c_27 => ?_)
    · refine lv_aload_n hx hb dX2_isBrought_41 rfl (lv_at hl 2 rfl) ?_
      refine va_get (D := (dC, dI)) (ci := 2) (v := .int (nI pd)) (C := RX2) (T := TX2) (N := 15) hx hb hts hin_2 hown hK hP 0 rfl rfl 13 (by decide) k_1 (fun _ h9 => h9) rfl dX2_isBrought_42 ?_
      refine lv_iconst (v := nI 3) hx hb dX2_isBrought_45 (by decide) ?_
      refine xr_icmp_le (tgt := 68) hx hb dX2_isBrought_46 (by decide) (by omega) (by omega) (fun c_46 => ?_) (fun c_46 => ?_)
      · have hlow : ¬ tFl pi pd := by unfold tFl; omega
        refine lv_iconst (v := nI 0) hx hb dX2_isBrought_68 (by decide) ?_
        refine lv_istore_n (lv' := [(3, .int (nI 0)), (2, .int (nI (pi (pd - 2)))), (1, .int (nI (pi (pd - 1)))), (0, .ref m0)]) hx hb dX2_isBrought_69 rfl hl (by decide) rfl (fun ls hl => ?_)
        refine lv_iload_n hx hb dX2_isBrought_70 rfl (lv_at hl 0 rfl) ?_
        refine xr_if_eq (tgt := 95) hx hb dX2_isBrought_71 (by decide) (by decide) (fun _ => ?_) (fun c9 => absurd c9 (by decide))
        refine lv_iload_n hx hb dX2_isBrought_95 rfl (lv_at hl 0 rfl) ?_
        refine xr_if_ne (tgt := 104) hx hb dX2_isBrought_96 (by decide) (by decide) (fun c9 => absurd c9 (by decide)) (fun _ => ?_)
        refine lv_iload_n hx hb dX2_isBrought_99 rfl (lv_at hl 1 rfl) ?_
        refine lv_iload_n hx hb dX2_isBrought_100 rfl (lv_at hl 2 rfl) ?_
        refine xr_icmp_gt (tgt := 116) hx hb dX2_isBrought_101 (by decide) (by omega) (by omega) (fun c_101 => ?_) (fun c_101 => ?_)
        · have hnx : nxP pi pd = none := by unfold nxP; rw [if_pos c_5, if_neg (fun q => hlow (tFb_iff.mp q)), if_neg (by omega)]
          refine lv_iconst (v := nI 0) hx hb dX2_isBrought_116 (by decide) ?_
          exact hret (me, mp, pd, pi) _ _ _ _ _ _ _ (Or.inl ⟨hnx, rfl, rfl⟩) hP hK hD hS (Nat.le_of_ble_eq_true rfl) (Nat.le_of_ble_eq_true rfl) (rfl) dX2_isBrought_117
        · have hnx : nxP pi pd = some (pd - 2) := by unfold nxP; rw [if_pos c_5, if_neg (fun q => hlow (tFb_iff.mp q)), if_pos c_101]
          refine lv_aload_n hx hb dX2_isBrought_104 rfl (lv_at hl 3 rfl) ?_
          refine lv_aload_n hx hb dX2_isBrought_105 rfl (lv_at hl 3 rfl) ?_
          refine va_get (D := (dC, dI)) (ci := 2) (v := .int (nI pd)) (C := RX2) (T := TX2) (N := 15) hx hb hts hin_2 hown hK hP 0 rfl rfl 13 (by decide) k_1 (fun _ h9 => h9) rfl dX2_isBrought_106 ?_
          refine lv_iconst (v := nI 2) hx hb dX2_isBrought_109 (by decide) ?_
          refine xr_isub hx hb dX2_isBrought_110 (by omega) ?_
          refine call_V_V (As := [.int (nI (pd - 2))]) (rest := []) (wr := []) ⟨hx, hb, hml, hown, hts⟩ (c_X2_join l dC dI cJ cI m0 mK mT mU mV mL mS th cap n hi ru me mp pd ht pi (pd - 2) (by omega) (by omega) (hle _ (by omega)) (hle _ (by omega))) (cwV 1 hts gX2_isBrought_X2_join rfl rfl rfl (by decide +kernel) ⟨Nat.le_of_ble_eq_true rfl, Nat.le_of_ble_eq_true rfl⟩) hP hD hK hN hS hA [0, 1] [] [0, 1] rfl rfl rfl (by decide) (by decide) (by decide) 0 2 rfl rfl rfl rfl hl.1 rfl (Nat.le_of_ble_eq_true rfl) dX2_isBrought_111 (Nat.le_of_ble_eq_true rfl) (Nat.le_of_ble_eq_true rfl) (fun u_111 H locs hw_111 hP hD hK1 hS => ?_)
          refine W.widen (k := 0) (n := 0) (Nat.le_of_ble_eq_true rfl) (Nat.le_of_ble_eq_true rfl) ?_
          have hP : va_P (dC, dI) vwCl [(m0, .inr (2, [.int (nI th), .int (nI cap), .ref mK, .ref mT, .ref mU, .ref mV, .int (nI n), .int (nI hi), .int (nI ru), .ref mL, .int (nI (me + 1)), .long (lN (mp + (pi (pd - 2) + pi (pd - 2 + 1)))), .ref mS, .int (nI (pd - 1)), .int (nI ht)])), (mS, .inl (cI, 200, .inl (fun j => nI ((jn pi pd (pd - 2)) j))))] H := ct_Psub hP [0, 1] rfl
          have hD : va_D A [(m0, .inr (2, [.int (nI th), .int (nI cap), .ref mK, .ref mT, .ref mU, .ref mV, .int (nI n), .int (nI hi), .int (nI ru), .ref mL, .int (nI (me + 1)), .long (lN (mp + (pi (pd - 2) + pi (pd - 2 + 1)))), .ref mS, .int (nI (pd - 1)), .int (nI ht)])), (mS, .inl (cI, 200, .inl (fun j => nI ((jn pi pd (pd - 2)) j))))] := hD.sub [0, 1] (by decide) rfl
          refine lv_iconst (v := nI 1) hx hb dX2_isBrought_114 (by decide) ?_
          exact hret (me + 1, mp + (pi (pd - 2) + pi (pd - 2 + 1)), pd - 1, jn pi pd (pd - 2)) _ _ _ _ _ _ _ (Or.inr ⟨pd - 2, hnx, rfl, rfl⟩) hP hK hD hS (Nat.le_of_ble_eq_true rfl) (Nat.le_of_ble_eq_true rfl) (rfl) dX2_isBrought_115
      · exact absurd c_46 (by omega)
    · refine lv_aload_n hx hb dX2_isBrought_30 rfl (lv_at hl 2 rfl) ?_
      refine lv_iconst (v := nI 2) hx hb dX2_isBrought_31 (by decide) ?_
      refine call_V_I (As := [.int (nI 2)]) (rest := []) (wr := []) ⟨hx, hb, hml, hown, hts⟩ (c_X2_fromTop l dC dI cJ cI m0 mK mT mU mV mL mS th cap n hi ru me mp pd ht pi 2 (by omega) (by omega)) (cwV 1 hts gX2_isBrought_X2_fromTop rfl rfl rfl (by decide +kernel) ⟨Nat.le_of_ble_eq_true rfl, Nat.le_of_ble_eq_true rfl⟩) hP hD hK hN hS hA [0, 1] [] [0, 1] rfl rfl rfl (by decide) (by decide) (by decide) 0 2 rfl rfl rfl rfl hl.1 rfl (Nat.le_of_ble_eq_true rfl) dX2_isBrought_32 (Nat.le_of_ble_eq_true rfl) (Nat.le_of_ble_eq_true rfl) (fun r_32 u_32 H locs hw_32 hP hD hK1 hS => ?_)
      refine W.widen (k := 0) (n := 0) (Nat.le_of_ble_eq_true rfl) (Nat.le_of_ble_eq_true rfl) ?_
      have hP : va_P (dC, dI) vwCl [(m0, .inr (2, [.int (nI th), .int (nI cap), .ref mK, .ref mT, .ref mU, .ref mV, .int (nI n), .int (nI hi), .int (nI ru), .ref mL, .int (nI me), .long (lN mp), .ref mS, .int (nI pd), .int (nI ht)])), (mS, .inl (cI, 200, .inl (fun j => nI (pi j))))] H := ct_Psub hP [0, 1] rfl
      have hD : va_D A [(m0, .inr (2, [.int (nI th), .int (nI cap), .ref mK, .ref mT, .ref mU, .ref mV, .int (nI n), .int (nI hi), .int (nI ru), .ref mL, .int (nI me), .long (lN mp), .ref mS, .int (nI pd), .int (nI ht)])), (mS, .inl (cI, 200, .inl (fun j => nI (pi j))))] := hD.sub [0, 1] (by decide) rfl
      refine xr_top (y := nI (pi (pd - 3))) (hw_32.trans (by rw [show pd - 1 - 2 = pd - 3 by omega])) ?_
      have b32 := hle (pd - 3) (by omega)
      refine lv_iload_n hx hb dX2_isBrought_35 rfl (lv_at hl 0 rfl) ?_
      refine lv_iload_n hx hb dX2_isBrought_36 rfl (lv_at hl 1 rfl) ?_
      refine xr_iadd hx hb dX2_isBrought_37 ?_
      refine xr_icmp_le (tgt := 64) hx hb dX2_isBrought_38 (by decide) (by omega) (by omega) (fun c_38 => ?_) (fun c_38 => ?_)
      · have hlow : tFl pi pd := Or.inl ⟨by omega, c_38⟩
        refine lv_iconst (v := nI 1) hx hb dX2_isBrought_64 (by decide) ?_
        refine lv_goto (tgt := 69) hx hb dX2_isBrought_65 (by decide) ?_
        refine lv_istore_n (lv' := [(3, .int (nI 1)), (2, .int (nI (pi (pd - 2)))), (1, .int (nI (pi (pd - 1)))), (0, .ref m0)]) hx hb dX2_isBrought_69 rfl hl (by decide) rfl (fun ls hl => ?_)
        refine lv_iload_n hx hb dX2_isBrought_70 rfl (lv_at hl 0 rfl) ?_
        refine xr_if_eq (tgt := 95) hx hb dX2_isBrought_71 (by decide) (by decide) (fun c9 => absurd c9 (by decide)) (fun _ => ?_)
        have h39 : 3 ≤ pd := by unfold tFl at hlow; omega
        refine lv_aload_n hx hb dX2_isBrought_74 rfl (lv_at hl 3 rfl) ?_
        refine lv_iconst (v := nI 2) hx hb dX2_isBrought_75 (by decide) ?_
        refine call_V_I (As := [.int (nI 2)]) (rest := []) (wr := []) ⟨hx, hb, hml, hown, hts⟩ (c_X2_fromTop l dC dI cJ cI m0 mK mT mU mV mL mS th cap n hi ru me mp pd ht pi 2 (by omega) (by omega)) (cwV 1 hts gX2_isBrought_X2_fromTop rfl rfl rfl (by decide +kernel) ⟨Nat.le_of_ble_eq_true rfl, Nat.le_of_ble_eq_true rfl⟩) hP hD hK hN hS hA [0, 1] [] [0, 1] rfl rfl rfl (by decide) (by decide) (by decide) 0 2 rfl rfl rfl rfl hl.1 rfl (Nat.le_of_ble_eq_true rfl) dX2_isBrought_76 (Nat.le_of_ble_eq_true rfl) (Nat.le_of_ble_eq_true rfl) (fun r_76 u_76 H locs hw_76 hP hD hK1 hS => ?_)
        refine W.widen (k := 0) (n := 0) (Nat.le_of_ble_eq_true rfl) (Nat.le_of_ble_eq_true rfl) ?_
        have hP : va_P (dC, dI) vwCl [(m0, .inr (2, [.int (nI th), .int (nI cap), .ref mK, .ref mT, .ref mU, .ref mV, .int (nI n), .int (nI hi), .int (nI ru), .ref mL, .int (nI me), .long (lN mp), .ref mS, .int (nI pd), .int (nI ht)])), (mS, .inl (cI, 200, .inl (fun j => nI (pi j))))] H := ct_Psub hP [0, 1] rfl
        have hD : va_D A [(m0, .inr (2, [.int (nI th), .int (nI cap), .ref mK, .ref mT, .ref mU, .ref mV, .int (nI n), .int (nI hi), .int (nI ru), .ref mL, .int (nI me), .long (lN mp), .ref mS, .int (nI pd), .int (nI ht)])), (mS, .inl (cI, 200, .inl (fun j => nI (pi j))))] := hD.sub [0, 1] (by decide) rfl
        refine xr_top (y := nI (pi (pd - 3))) (hw_76.trans (by rw [show pd - 1 - 2 = pd - 3 by omega])) ?_
        have b76 := hle (pd - 3) (by omega)
        refine lv_iload_n hx hb dX2_isBrought_79 rfl (lv_at hl 2 rfl) ?_
        refine xr_icmp_ge (tgt := 95) hx hb dX2_isBrought_80 (by decide) (by omega) (by omega) (fun c_80 => ?_) (fun c_80 => ?_)
        · have hnx : nxP pi pd = some (pd - 2) := by unfold nxP lwP; rw [if_pos c_5, if_pos (tFb_iff.mpr hlow), if_neg (fun q => by omega)]
          refine lv_iload_n hx hb dX2_isBrought_95 rfl (lv_at hl 0 rfl) ?_
          refine xr_if_ne (tgt := 104) hx hb dX2_isBrought_96 (by decide) (by decide) (fun _ => ?_) (fun c9 => absurd c9 (by decide))
          refine lv_aload_n hx hb dX2_isBrought_104 rfl (lv_at hl 3 rfl) ?_
          refine lv_aload_n hx hb dX2_isBrought_105 rfl (lv_at hl 3 rfl) ?_
          refine va_get (D := (dC, dI)) (ci := 2) (v := .int (nI pd)) (C := RX2) (T := TX2) (N := 15) hx hb hts hin_2 hown hK hP 0 rfl rfl 13 (by decide) k_1 (fun _ h9 => h9) rfl dX2_isBrought_106 ?_
          refine lv_iconst (v := nI 2) hx hb dX2_isBrought_109 (by decide) ?_
          refine xr_isub hx hb dX2_isBrought_110 (by omega) ?_
          refine call_V_V (As := [.int (nI (pd - 2))]) (rest := []) (wr := []) ⟨hx, hb, hml, hown, hts⟩ (c_X2_join l dC dI cJ cI m0 mK mT mU mV mL mS th cap n hi ru me mp pd ht pi (pd - 2) (by omega) (by omega) (hle _ (by omega)) (hle _ (by omega))) (cwV 1 hts gX2_isBrought_X2_join rfl rfl rfl (by decide +kernel) ⟨Nat.le_of_ble_eq_true rfl, Nat.le_of_ble_eq_true rfl⟩) hP hD hK hN hS hA [0, 1] [] [0, 1] rfl rfl rfl (by decide) (by decide) (by decide) 0 2 rfl rfl rfl rfl hl.1 rfl (Nat.le_of_ble_eq_true rfl) dX2_isBrought_111 (Nat.le_of_ble_eq_true rfl) (Nat.le_of_ble_eq_true rfl) (fun u_111 H locs hw_111 hP hD hK1 hS => ?_)
          refine W.widen (k := 0) (n := 0) (Nat.le_of_ble_eq_true rfl) (Nat.le_of_ble_eq_true rfl) ?_
          have hP : va_P (dC, dI) vwCl [(m0, .inr (2, [.int (nI th), .int (nI cap), .ref mK, .ref mT, .ref mU, .ref mV, .int (nI n), .int (nI hi), .int (nI ru), .ref mL, .int (nI (me + 1)), .long (lN (mp + (pi (pd - 2) + pi (pd - 2 + 1)))), .ref mS, .int (nI (pd - 1)), .int (nI ht)])), (mS, .inl (cI, 200, .inl (fun j => nI ((jn pi pd (pd - 2)) j))))] H := ct_Psub hP [0, 1] rfl
          have hD : va_D A [(m0, .inr (2, [.int (nI th), .int (nI cap), .ref mK, .ref mT, .ref mU, .ref mV, .int (nI n), .int (nI hi), .int (nI ru), .ref mL, .int (nI (me + 1)), .long (lN (mp + (pi (pd - 2) + pi (pd - 2 + 1)))), .ref mS, .int (nI (pd - 1)), .int (nI ht)])), (mS, .inl (cI, 200, .inl (fun j => nI ((jn pi pd (pd - 2)) j))))] := hD.sub [0, 1] (by decide) rfl
          refine lv_iconst (v := nI 1) hx hb dX2_isBrought_114 (by decide) ?_
          exact hret (me + 1, mp + (pi (pd - 2) + pi (pd - 2 + 1)), pd - 1, jn pi pd (pd - 2)) _ _ _ _ _ _ _ (Or.inr ⟨pd - 2, hnx, rfl, rfl⟩) hP hK hD hS (Nat.le_of_ble_eq_true rfl) (Nat.le_of_ble_eq_true rfl) (rfl) dX2_isBrought_115
        · have hnx : nxP pi pd = some (pd - 3) := by unfold nxP lwP; rw [if_pos c_5, if_pos (tFb_iff.mpr hlow), if_pos ⟨h39, c_80⟩]
          refine lv_aload_n hx hb dX2_isBrought_83 rfl (lv_at hl 3 rfl) ?_
          refine lv_aload_n hx hb dX2_isBrought_84 rfl (lv_at hl 3 rfl) ?_
          refine va_get (D := (dC, dI)) (ci := 2) (v := .int (nI pd)) (C := RX2) (T := TX2) (N := 15) hx hb hts hin_2 hown hK hP 0 rfl rfl 13 (by decide) k_1 (fun _ h9 => h9) rfl dX2_isBrought_85 ?_
          refine lv_iconst (v := nI 3) hx hb dX2_isBrought_88 (by decide) ?_
          refine xr_isub hx hb dX2_isBrought_89 (by omega) ?_
          refine call_V_V (As := [.int (nI (pd - 3))]) (rest := []) (wr := []) ⟨hx, hb, hml, hown, hts⟩ (c_X2_join l dC dI cJ cI m0 mK mT mU mV mL mS th cap n hi ru me mp pd ht pi (pd - 3) (by omega) (by omega) (hle _ (by omega)) (hle _ (by omega))) (cwV 1 hts gX2_isBrought_X2_join rfl rfl rfl (by decide +kernel) ⟨Nat.le_of_ble_eq_true rfl, Nat.le_of_ble_eq_true rfl⟩) hP hD hK hN hS hA [0, 1] [] [0, 1] rfl rfl rfl (by decide) (by decide) (by decide) 0 2 rfl rfl rfl rfl hl.1 rfl (Nat.le_of_ble_eq_true rfl) dX2_isBrought_90 (Nat.le_of_ble_eq_true rfl) (Nat.le_of_ble_eq_true rfl) (fun u_90 H locs hw_90 hP hD hK1 hS => ?_)
          refine W.widen (k := 0) (n := 0) (Nat.le_of_ble_eq_true rfl) (Nat.le_of_ble_eq_true rfl) ?_
          have hP : va_P (dC, dI) vwCl [(m0, .inr (2, [.int (nI th), .int (nI cap), .ref mK, .ref mT, .ref mU, .ref mV, .int (nI n), .int (nI hi), .int (nI ru), .ref mL, .int (nI (me + 1)), .long (lN (mp + (pi (pd - 3) + pi (pd - 3 + 1)))), .ref mS, .int (nI (pd - 1)), .int (nI ht)])), (mS, .inl (cI, 200, .inl (fun j => nI ((jn pi pd (pd - 3)) j))))] H := ct_Psub hP [0, 1] rfl
          have hD : va_D A [(m0, .inr (2, [.int (nI th), .int (nI cap), .ref mK, .ref mT, .ref mU, .ref mV, .int (nI n), .int (nI hi), .int (nI ru), .ref mL, .int (nI (me + 1)), .long (lN (mp + (pi (pd - 3) + pi (pd - 3 + 1)))), .ref mS, .int (nI (pd - 1)), .int (nI ht)])), (mS, .inl (cI, 200, .inl (fun j => nI ((jn pi pd (pd - 3)) j))))] := hD.sub [0, 1] (by decide) rfl
          refine lv_iconst (v := nI 1) hx hb dX2_isBrought_93 (by decide) ?_
          exact hret (me + 1, mp + (pi (pd - 3) + pi (pd - 3 + 1)), pd - 1, jn pi pd (pd - 3)) _ _ _ _ _ _ _ (Or.inr ⟨pd - 3, hnx, rfl, rfl⟩) hP hK hD hS (Nat.le_of_ble_eq_true rfl) (Nat.le_of_ble_eq_true rfl) (rfl) dX2_isBrought_94
      · refine lv_aload_n hx hb dX2_isBrought_41 rfl (lv_at hl 2 rfl) ?_
        refine va_get (D := (dC, dI)) (ci := 2) (v := .int (nI pd)) (C := RX2) (T := TX2) (N := 15) hx hb hts hin_2 hown hK hP 0 rfl rfl 13 (by decide) k_1 (fun _ h9 => h9) rfl dX2_isBrought_42 ?_
        refine lv_iconst (v := nI 3) hx hb dX2_isBrought_45 (by decide) ?_
        refine xr_icmp_le (tgt := 68) hx hb dX2_isBrought_46 (by decide) (by omega) (by omega) (fun c_46 => ?_) (fun c_46 => ?_)
        · have hlow : ¬ tFl pi pd := by unfold tFl; omega
          refine lv_iconst (v := nI 0) hx hb dX2_isBrought_68 (by decide) ?_
          refine lv_istore_n (lv' := [(3, .int (nI 0)), (2, .int (nI (pi (pd - 2)))), (1, .int (nI (pi (pd - 1)))), (0, .ref m0)]) hx hb dX2_isBrought_69 rfl hl (by decide) rfl (fun ls hl => ?_)
          refine lv_iload_n hx hb dX2_isBrought_70 rfl (lv_at hl 0 rfl) ?_
          refine xr_if_eq (tgt := 95) hx hb dX2_isBrought_71 (by decide) (by decide) (fun _ => ?_) (fun c9 => absurd c9 (by decide))
          refine lv_iload_n hx hb dX2_isBrought_95 rfl (lv_at hl 0 rfl) ?_
          refine xr_if_ne (tgt := 104) hx hb dX2_isBrought_96 (by decide) (by decide) (fun c9 => absurd c9 (by decide)) (fun _ => ?_)
          refine lv_iload_n hx hb dX2_isBrought_99 rfl (lv_at hl 1 rfl) ?_
          refine lv_iload_n hx hb dX2_isBrought_100 rfl (lv_at hl 2 rfl) ?_
          refine xr_icmp_gt (tgt := 116) hx hb dX2_isBrought_101 (by decide) (by omega) (by omega) (fun c_101 => ?_) (fun c_101 => ?_)
          · have hnx : nxP pi pd = none := by unfold nxP; rw [if_pos c_5, if_neg (fun q => hlow (tFb_iff.mp q)), if_neg (by omega)]
            refine lv_iconst (v := nI 0) hx hb dX2_isBrought_116 (by decide) ?_
            exact hret (me, mp, pd, pi) _ _ _ _ _ _ _ (Or.inl ⟨hnx, rfl, rfl⟩) hP hK hD hS (Nat.le_of_ble_eq_true rfl) (Nat.le_of_ble_eq_true rfl) (rfl) dX2_isBrought_117
          · have hnx : nxP pi pd = some (pd - 2) := by unfold nxP; rw [if_pos c_5, if_neg (fun q => hlow (tFb_iff.mp q)), if_pos c_101]
            refine lv_aload_n hx hb dX2_isBrought_104 rfl (lv_at hl 3 rfl) ?_
            refine lv_aload_n hx hb dX2_isBrought_105 rfl (lv_at hl 3 rfl) ?_
            refine va_get (D := (dC, dI)) (ci := 2) (v := .int (nI pd)) (C := RX2) (T := TX2) (N := 15) hx hb hts hin_2 hown hK hP 0 rfl rfl 13 (by decide) k_1 (fun _ h9 => h9) rfl dX2_isBrought_106 ?_
            refine lv_iconst (v := nI 2) hx hb dX2_isBrought_109 (by decide) ?_
            refine xr_isub hx hb dX2_isBrought_110 (by omega) ?_
            refine call_V_V (As := [.int (nI (pd - 2))]) (rest := []) (wr := []) ⟨hx, hb, hml, hown, hts⟩ (c_X2_join l dC dI cJ cI m0 mK mT mU mV mL mS th cap n hi ru me mp pd ht pi (pd - 2) (by omega) (by omega) (hle _ (by omega)) (hle _ (by omega))) (cwV 1 hts gX2_isBrought_X2_join rfl rfl rfl (by decide +kernel) ⟨Nat.le_of_ble_eq_true rfl, Nat.le_of_ble_eq_true rfl⟩) hP hD hK hN hS hA [0, 1] [] [0, 1] rfl rfl rfl (by decide) (by decide) (by decide) 0 2 rfl rfl rfl rfl hl.1 rfl (Nat.le_of_ble_eq_true rfl) dX2_isBrought_111 (Nat.le_of_ble_eq_true rfl) (Nat.le_of_ble_eq_true rfl) (fun u_111 H locs hw_111 hP hD hK1 hS => ?_)
            refine W.widen (k := 0) (n := 0) (Nat.le_of_ble_eq_true rfl) (Nat.le_of_ble_eq_true rfl) ?_
            have hP : va_P (dC, dI) vwCl [(m0, .inr (2, [.int (nI th), .int (nI cap), .ref mK, .ref mT, .ref mU, .ref mV, .int (nI n), .int (nI hi), .int (nI ru), .ref mL, .int (nI (me + 1)), .long (lN (mp + (pi (pd - 2) + pi (pd - 2 + 1)))), .ref mS, .int (nI (pd - 1)), .int (nI ht)])), (mS, .inl (cI, 200, .inl (fun j => nI ((jn pi pd (pd - 2)) j))))] H := ct_Psub hP [0, 1] rfl
            have hD : va_D A [(m0, .inr (2, [.int (nI th), .int (nI cap), .ref mK, .ref mT, .ref mU, .ref mV, .int (nI n), .int (nI hi), .int (nI ru), .ref mL, .int (nI (me + 1)), .long (lN (mp + (pi (pd - 2) + pi (pd - 2 + 1)))), .ref mS, .int (nI (pd - 1)), .int (nI ht)])), (mS, .inl (cI, 200, .inl (fun j => nI ((jn pi pd (pd - 2)) j))))] := hD.sub [0, 1] (by decide) rfl
            refine lv_iconst (v := nI 1) hx hb dX2_isBrought_114 (by decide) ?_
            exact hret (me + 1, mp + (pi (pd - 2) + pi (pd - 2 + 1)), pd - 1, jn pi pd (pd - 2)) _ _ _ _ _ _ _ (Or.inr ⟨pd - 2, hnx, rfl, rfl⟩) hP hK hD hS (Nat.le_of_ble_eq_true rfl) (Nat.le_of_ble_eq_true rfl) (rfl) dX2_isBrought_115
        · refine lv_aload_n hx hb dX2_isBrought_49 rfl (lv_at hl 2 rfl) ?_
          refine lv_iconst (v := nI 3) hx hb dX2_isBrought_50 (by decide) ?_
          refine call_V_I (As := [.int (nI 3)]) (rest := []) (wr := []) ⟨hx, hb, hml, hown, hts⟩ (c_X2_fromTop l dC dI cJ cI m0 mK mT mU mV mL mS th cap n hi ru me mp pd ht pi 3 (by omega) (by omega)) (cwV 1 hts gX2_isBrought_X2_fromTop rfl rfl rfl (by decide +kernel) ⟨Nat.le_of_ble_eq_true rfl, Nat.le_of_ble_eq_true rfl⟩) hP hD hK hN hS hA [0, 1] [] [0, 1] rfl rfl rfl (by decide) (by decide) (by decide) 0 2 rfl rfl rfl rfl hl.1 rfl (Nat.le_of_ble_eq_true rfl) dX2_isBrought_51 (Nat.le_of_ble_eq_true rfl) (Nat.le_of_ble_eq_true rfl) (fun r_51 u_51 H locs hw_51 hP hD hK1 hS => ?_)
          refine W.widen (k := 0) (n := 0) (Nat.le_of_ble_eq_true rfl) (Nat.le_of_ble_eq_true rfl) ?_
          have hP : va_P (dC, dI) vwCl [(m0, .inr (2, [.int (nI th), .int (nI cap), .ref mK, .ref mT, .ref mU, .ref mV, .int (nI n), .int (nI hi), .int (nI ru), .ref mL, .int (nI me), .long (lN mp), .ref mS, .int (nI pd), .int (nI ht)])), (mS, .inl (cI, 200, .inl (fun j => nI (pi j))))] H := ct_Psub hP [0, 1] rfl
          have hD : va_D A [(m0, .inr (2, [.int (nI th), .int (nI cap), .ref mK, .ref mT, .ref mU, .ref mV, .int (nI n), .int (nI hi), .int (nI ru), .ref mL, .int (nI me), .long (lN mp), .ref mS, .int (nI pd), .int (nI ht)])), (mS, .inl (cI, 200, .inl (fun j => nI (pi j))))] := hD.sub [0, 1] (by decide) rfl
          refine xr_top (y := nI (pi (pd - 4))) (hw_51.trans (by rw [show pd - 1 - 3 = pd - 4 by omega])) ?_
          have b51 := hle (pd - 4) (by omega)
          refine lv_aload_n hx hb dX2_isBrought_54 rfl (lv_at hl 2 rfl) ?_
          refine lv_iconst (v := nI 2) hx hb dX2_isBrought_55 (by decide) ?_
          refine call_V_I (As := [.int (nI 2)]) (rest := [.int (nI (pi (pd - 4)))]) (wr := []) ⟨hx, hb, hml, hown, hts⟩ (c_X2_fromTop l dC dI cJ cI m0 mK mT mU mV mL mS th cap n hi ru me mp pd ht pi 2 (by omega) (by omega)) (cwV 1 hts gX2_isBrought_X2_fromTop rfl rfl rfl (by decide +kernel) ⟨Nat.le_of_ble_eq_true rfl, Nat.le_of_ble_eq_true rfl⟩) hP hD hK hN hS hA [0, 1] [] [0, 1] rfl rfl rfl (by decide) (by decide) (by decide) 0 2 rfl rfl rfl rfl hl.1 rfl (Nat.le_of_ble_eq_true rfl) dX2_isBrought_56 (Nat.le_of_ble_eq_true rfl) (Nat.le_of_ble_eq_true rfl) (fun r_56 u_56 H locs hw_56 hP hD hK1 hS => ?_)
          refine W.widen (k := 0) (n := 0) (Nat.le_of_ble_eq_true rfl) (Nat.le_of_ble_eq_true rfl) ?_
          have hP : va_P (dC, dI) vwCl [(m0, .inr (2, [.int (nI th), .int (nI cap), .ref mK, .ref mT, .ref mU, .ref mV, .int (nI n), .int (nI hi), .int (nI ru), .ref mL, .int (nI me), .long (lN mp), .ref mS, .int (nI pd), .int (nI ht)])), (mS, .inl (cI, 200, .inl (fun j => nI (pi j))))] H := ct_Psub hP [0, 1] rfl
          have hD : va_D A [(m0, .inr (2, [.int (nI th), .int (nI cap), .ref mK, .ref mT, .ref mU, .ref mV, .int (nI n), .int (nI hi), .int (nI ru), .ref mL, .int (nI me), .long (lN mp), .ref mS, .int (nI pd), .int (nI ht)])), (mS, .inl (cI, 200, .inl (fun j => nI (pi j))))] := hD.sub [0, 1] (by decide) rfl
          refine xr_top (y := nI (pi (pd - 3))) (hw_56.trans (by rw [show pd - 1 - 2 = pd - 3 by omega])) ?_
          have b56 := hle (pd - 3) (by omega)
          refine lv_iload_n hx hb dX2_isBrought_59 rfl (lv_at hl 0 rfl) ?_
          refine xr_iadd hx hb dX2_isBrought_60 ?_
          refine xr_icmp_gt (tgt := 68) hx hb dX2_isBrought_61 (by decide) (by omega) (by omega) (fun c_61 => ?_) (fun c_61 => ?_)
          · have hlow : ¬ tFl pi pd := by unfold tFl; omega
            refine lv_iconst (v := nI 0) hx hb dX2_isBrought_68 (by decide) ?_
            refine lv_istore_n (lv' := [(3, .int (nI 0)), (2, .int (nI (pi (pd - 2)))), (1, .int (nI (pi (pd - 1)))), (0, .ref m0)]) hx hb dX2_isBrought_69 rfl hl (by decide) rfl (fun ls hl => ?_)
            refine lv_iload_n hx hb dX2_isBrought_70 rfl (lv_at hl 0 rfl) ?_
            refine xr_if_eq (tgt := 95) hx hb dX2_isBrought_71 (by decide) (by decide) (fun _ => ?_) (fun c9 => absurd c9 (by decide))
            refine lv_iload_n hx hb dX2_isBrought_95 rfl (lv_at hl 0 rfl) ?_
            refine xr_if_ne (tgt := 104) hx hb dX2_isBrought_96 (by decide) (by decide) (fun c9 => absurd c9 (by decide)) (fun _ => ?_)
            refine lv_iload_n hx hb dX2_isBrought_99 rfl (lv_at hl 1 rfl) ?_
            refine lv_iload_n hx hb dX2_isBrought_100 rfl (lv_at hl 2 rfl) ?_
            refine xr_icmp_gt (tgt := 116) hx hb dX2_isBrought_101 (by decide) (by omega) (by omega) (fun c_101 => ?_) (fun c_101 => ?_)
            · have hnx : nxP pi pd = none := by unfold nxP; rw [if_pos c_5, if_neg (fun q => hlow (tFb_iff.mp q)), if_neg (by omega)]
              refine lv_iconst (v := nI 0) hx hb dX2_isBrought_116 (by decide) ?_
              exact hret (me, mp, pd, pi) _ _ _ _ _ _ _ (Or.inl ⟨hnx, rfl, rfl⟩) hP hK hD hS (Nat.le_of_ble_eq_true rfl) (Nat.le_of_ble_eq_true rfl) (rfl) dX2_isBrought_117
            · have hnx : nxP pi pd = some (pd - 2) := by unfold nxP; rw [if_pos c_5, if_neg (fun q => hlow (tFb_iff.mp q)), if_pos c_101]
              refine lv_aload_n hx hb dX2_isBrought_104 rfl (lv_at hl 3 rfl) ?_
              refine lv_aload_n hx hb dX2_isBrought_105 rfl (lv_at hl 3 rfl) ?_
              refine va_get (D := (dC, dI)) (ci := 2) (v := .int (nI pd)) (C := RX2) (T := TX2) (N := 15) hx hb hts hin_2 hown hK hP 0 rfl rfl 13 (by decide) k_1 (fun _ h9 => h9) rfl dX2_isBrought_106 ?_
              refine lv_iconst (v := nI 2) hx hb dX2_isBrought_109 (by decide) ?_
              refine xr_isub hx hb dX2_isBrought_110 (by omega) ?_
              refine call_V_V (As := [.int (nI (pd - 2))]) (rest := []) (wr := []) ⟨hx, hb, hml, hown, hts⟩ (c_X2_join l dC dI cJ cI m0 mK mT mU mV mL mS th cap n hi ru me mp pd ht pi (pd - 2) (by omega) (by omega) (hle _ (by omega)) (hle _ (by omega))) (cwV 1 hts gX2_isBrought_X2_join rfl rfl rfl (by decide +kernel) ⟨Nat.le_of_ble_eq_true rfl, Nat.le_of_ble_eq_true rfl⟩) hP hD hK hN hS hA [0, 1] [] [0, 1] rfl rfl rfl (by decide) (by decide) (by decide) 0 2 rfl rfl rfl rfl hl.1 rfl (Nat.le_of_ble_eq_true rfl) dX2_isBrought_111 (Nat.le_of_ble_eq_true rfl) (Nat.le_of_ble_eq_true rfl) (fun u_111 H locs hw_111 hP hD hK1 hS => ?_)
              refine W.widen (k := 0) (n := 0) (Nat.le_of_ble_eq_true rfl) (Nat.le_of_ble_eq_true rfl) ?_
              have hP : va_P (dC, dI) vwCl [(m0, .inr (2, [.int (nI th), .int (nI cap), .ref mK, .ref mT, .ref mU, .ref mV, .int (nI n), .int (nI hi), .int (nI ru), .ref mL, .int (nI (me + 1)), .long (lN (mp + (pi (pd - 2) + pi (pd - 2 + 1)))), .ref mS, .int (nI (pd - 1)), .int (nI ht)])), (mS, .inl (cI, 200, .inl (fun j => nI ((jn pi pd (pd - 2)) j))))] H := ct_Psub hP [0, 1] rfl
              have hD : va_D A [(m0, .inr (2, [.int (nI th), .int (nI cap), .ref mK, .ref mT, .ref mU, .ref mV, .int (nI n), .int (nI hi), .int (nI ru), .ref mL, .int (nI (me + 1)), .long (lN (mp + (pi (pd - 2) + pi (pd - 2 + 1)))), .ref mS, .int (nI (pd - 1)), .int (nI ht)])), (mS, .inl (cI, 200, .inl (fun j => nI ((jn pi pd (pd - 2)) j))))] := hD.sub [0, 1] (by decide) rfl
              refine lv_iconst (v := nI 1) hx hb dX2_isBrought_114 (by decide) ?_
              exact hret (me + 1, mp + (pi (pd - 2) + pi (pd - 2 + 1)), pd - 1, jn pi pd (pd - 2)) _ _ _ _ _ _ _ (Or.inr ⟨pd - 2, hnx, rfl, rfl⟩) hP hK hD hS (Nat.le_of_ble_eq_true rfl) (Nat.le_of_ble_eq_true rfl) (rfl) dX2_isBrought_115
          · have hlow : tFl pi pd := Or.inr ⟨by omega, c_61⟩
            refine lv_iconst (v := nI 1) hx hb dX2_isBrought_64 (by decide) ?_
            refine lv_goto (tgt := 69) hx hb dX2_isBrought_65 (by decide) ?_
            refine lv_istore_n (lv' := [(3, .int (nI 1)), (2, .int (nI (pi (pd - 2)))), (1, .int (nI (pi (pd - 1)))), (0, .ref m0)]) hx hb dX2_isBrought_69 rfl hl (by decide) rfl (fun ls hl => ?_)
            refine lv_iload_n hx hb dX2_isBrought_70 rfl (lv_at hl 0 rfl) ?_
            refine xr_if_eq (tgt := 95) hx hb dX2_isBrought_71 (by decide) (by decide) (fun c9 => absurd c9 (by decide)) (fun _ => ?_)
            have h39 : 3 ≤ pd := by unfold tFl at hlow; omega
            refine lv_aload_n hx hb dX2_isBrought_74 rfl (lv_at hl 3 rfl) ?_
            refine lv_iconst (v := nI 2) hx hb dX2_isBrought_75 (by decide) ?_
            refine call_V_I (As := [.int (nI 2)]) (rest := []) (wr := []) ⟨hx, hb, hml, hown, hts⟩ (c_X2_fromTop l dC dI cJ cI m0 mK mT mU mV mL mS th cap n hi ru me mp pd ht pi 2 (by omega) (by omega)) (cwV 1 hts gX2_isBrought_X2_fromTop rfl rfl rfl (by decide +kernel) ⟨Nat.le_of_ble_eq_true rfl, Nat.le_of_ble_eq_true rfl⟩) hP hD hK hN hS hA [0, 1] [] [0, 1] rfl rfl rfl (by decide) (by decide) (by decide) 0 2 rfl rfl rfl rfl hl.1 rfl (Nat.le_of_ble_eq_true rfl) dX2_isBrought_76 (Nat.le_of_ble_eq_true rfl) (Nat.le_of_ble_eq_true rfl) (fun r_76 u_76 H locs hw_76 hP hD hK1 hS => ?_)
            refine W.widen (k := 0) (n := 0) (Nat.le_of_ble_eq_true rfl) (Nat.le_of_ble_eq_true rfl) ?_
            have hP : va_P (dC, dI) vwCl [(m0, .inr (2, [.int (nI th), .int (nI cap), .ref mK, .ref mT, .ref mU, .ref mV, .int (nI n), .int (nI hi), .int (nI ru), .ref mL, .int (nI me), .long (lN mp), .ref mS, .int (nI pd), .int (nI ht)])), (mS, .inl (cI, 200, .inl (fun j => nI (pi j))))] H := ct_Psub hP [0, 1] rfl
            have hD : va_D A [(m0, .inr (2, [.int (nI th), .int (nI cap), .ref mK, .ref mT, .ref mU, .ref mV, .int (nI n), .int (nI hi), .int (nI ru), .ref mL, .int (nI me), .long (lN mp), .ref mS, .int (nI pd), .int (nI ht)])), (mS, .inl (cI, 200, .inl (fun j => nI (pi j))))] := hD.sub [0, 1] (by decide) rfl
            refine xr_top (y := nI (pi (pd - 3))) (hw_76.trans (by rw [show pd - 1 - 2 = pd - 3 by omega])) ?_
            have b76 := hle (pd - 3) (by omega)
            refine lv_iload_n hx hb dX2_isBrought_79 rfl (lv_at hl 2 rfl) ?_
            refine xr_icmp_ge (tgt := 95) hx hb dX2_isBrought_80 (by decide) (by omega) (by omega) (fun c_80 => ?_) (fun c_80 => ?_)
            · have hnx : nxP pi pd = some (pd - 2) := by unfold nxP lwP; rw [if_pos c_5, if_pos (tFb_iff.mpr hlow), if_neg (fun q => by omega)]
              refine lv_iload_n hx hb dX2_isBrought_95 rfl (lv_at hl 0 rfl) ?_
              refine xr_if_ne (tgt := 104) hx hb dX2_isBrought_96 (by decide) (by decide) (fun _ => ?_) (fun c9 => absurd c9 (by decide))
              refine lv_aload_n hx hb dX2_isBrought_104 rfl (lv_at hl 3 rfl) ?_
              refine lv_aload_n hx hb dX2_isBrought_105 rfl (lv_at hl 3 rfl) ?_
              refine va_get (D := (dC, dI)) (ci := 2) (v := .int (nI pd)) (C := RX2) (T := TX2) (N := 15) hx hb hts hin_2 hown hK hP 0 rfl rfl 13 (by decide) k_1 (fun _ h9 => h9) rfl dX2_isBrought_106 ?_
              refine lv_iconst (v := nI 2) hx hb dX2_isBrought_109 (by decide) ?_
              refine xr_isub hx hb dX2_isBrought_110 (by omega) ?_
              refine call_V_V (As := [.int (nI (pd - 2))]) (rest := []) (wr := []) ⟨hx, hb, hml, hown, hts⟩ (c_X2_join l dC dI cJ cI m0 mK mT mU mV mL mS th cap n hi ru me mp pd ht pi (pd - 2) (by omega) (by omega) (hle _ (by omega)) (hle _ (by omega))) (cwV 1 hts gX2_isBrought_X2_join rfl rfl rfl (by decide +kernel) ⟨Nat.le_of_ble_eq_true rfl, Nat.le_of_ble_eq_true rfl⟩) hP hD hK hN hS hA [0, 1] [] [0, 1] rfl rfl rfl (by decide) (by decide) (by decide) 0 2 rfl rfl rfl rfl hl.1 rfl (Nat.le_of_ble_eq_true rfl) dX2_isBrought_111 (Nat.le_of_ble_eq_true rfl) (Nat.le_of_ble_eq_true rfl) (fun u_111 H locs hw_111 hP hD hK1 hS => ?_)
              refine W.widen (k := 0) (n := 0) (Nat.le_of_ble_eq_true rfl) (Nat.le_of_ble_eq_true rfl) ?_
              have hP : va_P (dC, dI) vwCl [(m0, .inr (2, [.int (nI th), .int (nI cap), .ref mK, .ref mT, .ref mU, .ref mV, .int (nI n), .int (nI hi), .int (nI ru), .ref mL, .int (nI (me + 1)), .long (lN (mp + (pi (pd - 2) + pi (pd - 2 + 1)))), .ref mS, .int (nI (pd - 1)), .int (nI ht)])), (mS, .inl (cI, 200, .inl (fun j => nI ((jn pi pd (pd - 2)) j))))] H := ct_Psub hP [0, 1] rfl
              have hD : va_D A [(m0, .inr (2, [.int (nI th), .int (nI cap), .ref mK, .ref mT, .ref mU, .ref mV, .int (nI n), .int (nI hi), .int (nI ru), .ref mL, .int (nI (me + 1)), .long (lN (mp + (pi (pd - 2) + pi (pd - 2 + 1)))), .ref mS, .int (nI (pd - 1)), .int (nI ht)])), (mS, .inl (cI, 200, .inl (fun j => nI ((jn pi pd (pd - 2)) j))))] := hD.sub [0, 1] (by decide) rfl
              refine lv_iconst (v := nI 1) hx hb dX2_isBrought_114 (by decide) ?_
              exact hret (me + 1, mp + (pi (pd - 2) + pi (pd - 2 + 1)), pd - 1, jn pi pd (pd - 2)) _ _ _ _ _ _ _ (Or.inr ⟨pd - 2, hnx, rfl, rfl⟩) hP hK hD hS (Nat.le_of_ble_eq_true rfl) (Nat.le_of_ble_eq_true rfl) (rfl) dX2_isBrought_115
            · have hnx : nxP pi pd = some (pd - 3) := by unfold nxP lwP; rw [if_pos c_5, if_pos (tFb_iff.mpr hlow), if_pos ⟨h39, c_80⟩]
              refine lv_aload_n hx hb dX2_isBrought_83 rfl (lv_at hl 3 rfl) ?_
              refine lv_aload_n hx hb dX2_isBrought_84 rfl (lv_at hl 3 rfl) ?_
              refine va_get (D := (dC, dI)) (ci := 2) (v := .int (nI pd)) (C := RX2) (T := TX2) (N := 15) hx hb hts hin_2 hown hK hP 0 rfl rfl 13 (by decide) k_1 (fun _ h9 => h9) rfl dX2_isBrought_85 ?_
              refine lv_iconst (v := nI 3) hx hb dX2_isBrought_88 (by decide) ?_
              refine xr_isub hx hb dX2_isBrought_89 (by omega) ?_
              refine call_V_V (As := [.int (nI (pd - 3))]) (rest := []) (wr := []) ⟨hx, hb, hml, hown, hts⟩ (c_X2_join l dC dI cJ cI m0 mK mT mU mV mL mS th cap n hi ru me mp pd ht pi (pd - 3) (by omega) (by omega) (hle _ (by omega)) (hle _ (by omega))) (cwV 1 hts gX2_isBrought_X2_join rfl rfl rfl (by decide +kernel) ⟨Nat.le_of_ble_eq_true rfl, Nat.le_of_ble_eq_true rfl⟩) hP hD hK hN hS hA [0, 1] [] [0, 1] rfl rfl rfl (by decide) (by decide) (by decide) 0 2 rfl rfl rfl rfl hl.1 rfl (Nat.le_of_ble_eq_true rfl) dX2_isBrought_90 (Nat.le_of_ble_eq_true rfl) (Nat.le_of_ble_eq_true rfl) (fun u_90 H locs hw_90 hP hD hK1 hS => ?_)
              refine W.widen (k := 0) (n := 0) (Nat.le_of_ble_eq_true rfl) (Nat.le_of_ble_eq_true rfl) ?_
              have hP : va_P (dC, dI) vwCl [(m0, .inr (2, [.int (nI th), .int (nI cap), .ref mK, .ref mT, .ref mU, .ref mV, .int (nI n), .int (nI hi), .int (nI ru), .ref mL, .int (nI (me + 1)), .long (lN (mp + (pi (pd - 3) + pi (pd - 3 + 1)))), .ref mS, .int (nI (pd - 1)), .int (nI ht)])), (mS, .inl (cI, 200, .inl (fun j => nI ((jn pi pd (pd - 3)) j))))] H := ct_Psub hP [0, 1] rfl
              have hD : va_D A [(m0, .inr (2, [.int (nI th), .int (nI cap), .ref mK, .ref mT, .ref mU, .ref mV, .int (nI n), .int (nI hi), .int (nI ru), .ref mL, .int (nI (me + 1)), .long (lN (mp + (pi (pd - 3) + pi (pd - 3 + 1)))), .ref mS, .int (nI (pd - 1)), .int (nI ht)])), (mS, .inl (cI, 200, .inl (fun j => nI ((jn pi pd (pd - 3)) j))))] := hD.sub [0, 1] (by decide) rfl
              refine lv_iconst (v := nI 1) hx hb dX2_isBrought_93 (by decide) ?_
              exact hret (me + 1, mp + (pi (pd - 3) + pi (pd - 3 + 1)), pd - 1, jn pi pd (pd - 3)) _ _ _ _ _ _ _ (Or.inr ⟨pd - 3, hnx, rfl, rfl⟩) hP hK hD hS (Nat.le_of_ble_eq_true rfl) (Nat.le_of_ble_eq_true rfl) (rfl) dX2_isBrought_94
  · have hnx : nxP pi pd = none := by unfold nxP; rw [if_neg (by omega)]
    refine lv_iconst (v := nI 0) hx hb dX2_isBrought_8 (by decide) ?_
    exact hret (me, mp, pd, pi) _ _ _ _ _ _ _ (Or.inl ⟨hnx, rfl, rfl⟩) hP hK hD hS (Nat.le_of_ble_eq_true rfl) (Nat.le_of_ble_eq_true rfl) (rfl) dX2_isBrought_9
abbrev rmX2_lookForRuns : Room := { frames := 2, cells := 0, slots := 0, locals := 45 }
set_option maxRecDepth 100000 in
set_option maxHeartbeats 4000000 in
theorem c_X2_lookForRuns (l : Launch) (dC : Nat → ClassId) (dI : Nat → Nat → Nat) (cJ cI : ClassId) (m0 mK mT mU mV mL mS th cap n hi : Nat) (K : Nat → Int32) (ln pi : Nat → Nat) (hn : n ≤ 4096) : CV l yX2_lookForRuns wsX2_lookForRuns rmX2_lookForRuns [.ref m0] (dC, dI) vwCl (KT cJ cI) [(m0, .inr (2, [.int (nI th), .int (nI cap), .ref mK, .ref mT, .ref mU, .ref mV, .int (nI n), .int (nI hi), .int (nI 0), .ref mL, .int (nI 0), .long (lN 0), .ref mS, .int (nI 0), .int (nI 0)])), (mK, .inl (cI, 4096, .inl K)), (mL, .inl (cI, 4096, .inl (fun j => nI (ln j)))), (mS, .inl (cI, 200, .inl (fun j => nI (pi j))))] (S := Nat × (Nat → Nat) × Nat × Nat × Nat × (Nat → Nat) × Nat) (fun (ru', ln', me', mp', pd', pi', ht') => (ru', ln', me', mp', ht') = rnQ (kG K) n ln pi ∧ ht' ≤ 4096 ∧ ru' ≤ 4096) (fun _ => KT cJ cI) (fun (ru', ln', me', mp', pd', pi', ht') => [(m0, .inr (2, [.int (nI th), .int (nI cap), .ref mK, .ref mT, .ref mU, .ref mV, .int (nI n), .int (nI hi), .int (nI ru'), .ref mL, .int (nI me'), .long (lN mp'), .ref mS, .int (nI pd'), .int (nI ht')])), (mK, .inl (cI, 4096, .inl K)), (mL, .inl (cI, 4096, .inl (fun j => nI (ln' j)))), (mS, .inl (cI, 200, .inl (fun j => nI (pi' j))))]) := by
  refine CV.mk (by decide) rfl (Nat.le_of_ble_eq_true rfl) ?_
  intro p e s m args below meth c A Q ls hx hb hml hown hts hin hA hS hP hD hK hN hl hret
  have hl : lv_has ls 5 [(0, .ref m0)] := hl
  have hin_2 : ∀ w ∈ u_ws RX2 TX2 15, w ∈ wsX2_lookForRuns := by decide +kernel
  have k_1 := hts (Cond.fieldLink RX2 35 "PairSorterModel" "size" "I") (by decide +kernel)
  have k_2 := hts (Cond.fieldLink RX2 45 "PairSorterModel" "piled" "I") (by decide +kernel)
  have k_3 := hts (Cond.fieldLink RX2 22 "PairSorterModel" "lengths" "[I") (by decide +kernel)
  have k_4 := hts (Cond.fieldLink RX2 62 "PairSorterModel" "runs" "I") (by decide +kernel)
  have k_5 := hts (Cond.fieldLink RX2 25 "PairSorterModel" "pile" "[I") (by decide +kernel)
  have k_6 := hts (Cond.fieldLink RX2 65 "PairSorterModel" "height" "I") (by decide +kernel)
  refine lv_aload_n hx hb dX2_lookForRuns_0 rfl (lv_at hl 0 rfl) ?_
  refine va_get (D := (dC, dI)) (ci := 2) (v := .int (nI n)) (C := RX2) (T := TX2) (N := 15) hx hb hts hin_2 hown hK hP 0 rfl rfl 6 (by decide) k_1 (fun _ h9 => h9) rfl dX2_lookForRuns_1 ?_
  refine call_S_I (As := [.int (nI n)]) (rest := []) (wr := [(m0, .inr (2, [.int (nI th), .int (nI cap), .ref mK, .ref mT, .ref mU, .ref mV, .int (nI n), .int (nI hi), .int (nI 0), .ref mL, .int (nI 0), .long (lN 0), .ref mS, .int (nI 0), .int (nI 0)])), (mK, .inl (cI, 4096, .inl K)), (mL, .inl (cI, 4096, .inl (fun j => nI (ln j)))), (mS, .inl (cI, 200, .inl (fun j => nI (pi j))))]) ⟨hx, hb, hml, hown, hts⟩ (c_X2_least l dC dI cJ cI n (by omega)) (va_cwS 1 hts gX2_lookForRuns_X2_least rfl rfl rfl (by decide +kernel) ⟨Nat.le_of_ble_eq_true rfl, Nat.le_of_ble_eq_true rfl⟩) hP hD hK hN hS hA [] [0, 1, 2, 3] [0, 1] rfl rfl rfl (by decide) (by decide) (by decide) rfl hl.1 rfl (Nat.le_of_ble_eq_true rfl) dX2_lookForRuns_4 (Nat.le_of_ble_eq_true rfl) (Nat.le_of_ble_eq_true rfl) (fun r_4 u_4 H locs hw_4 hP hD hK1 hS => ?_)
  refine W.widen (k := 0) (n := 0) (Nat.le_of_ble_eq_true rfl) (Nat.le_of_ble_eq_true rfl) ?_
  have hP : va_P (dC, dI) vwCl [(m0, .inr (2, [.int (nI th), .int (nI cap), .ref mK, .ref mT, .ref mU, .ref mV, .int (nI n), .int (nI hi), .int (nI 0), .ref mL, .int (nI 0), .long (lN 0), .ref mS, .int (nI 0), .int (nI 0)])), (mK, .inl (cI, 4096, .inl K)), (mL, .inl (cI, 4096, .inl (fun j => nI (ln j)))), (mS, .inl (cI, 200, .inl (fun j => nI (pi j))))] H := ct_Psub hP [0, 1, 2, 3] rfl
  have hD : va_D A [(m0, .inr (2, [.int (nI th), .int (nI cap), .ref mK, .ref mT, .ref mU, .ref mV, .int (nI n), .int (nI hi), .int (nI 0), .ref mL, .int (nI 0), .long (lN 0), .ref mS, .int (nI 0), .int (nI 0)])), (mK, .inl (cI, 4096, .inl K)), (mL, .inl (cI, 4096, .inl (fun j => nI (ln j)))), (mS, .inl (cI, 200, .inl (fun j => nI (pi j))))] := hD.sub [0, 1, 2, 3] (by decide) rfl
  refine xr_top (y := nI (lsR n 0)) (hw_4) ?_
  have hLs := lsR_use (n := n)
  refine lv_istore_n (lv' := [(1, .int (nI (lsR n 0))), (0, .ref m0)]) hx hb dX2_lookForRuns_7 rfl hl (by decide) rfl (fun ls hl => ?_)
  refine lv_iconst (v := nI 0) hx hb dX2_lookForRuns_8 (by decide) ?_
  refine lv_istore_n (lv' := [(2, .int (nI 0)), (1, .int (nI (lsR n 0))), (0, .ref m0)]) hx hb dX2_lookForRuns_9 rfl hl (by decide) rfl (fun ls hl => ?_)
  have L_o : ∀ (kq : Nat) (a ru2 me2 mp2 pd2 ht2 : Nat) (ln2 pi2 st2 : Nat → Nat), (a ≤ n) → (rsF (kG K) n (lsR n 0) a ru2 ln2 pi2 pd2 me2 mp2 ht2 = rsF (kG K) n (lsR n 0) 0 0 ln pi 0 0 0 0) → (n < 2 → ru2 = 0 ∧ ln2 = ln ∧ me2 = 0 ∧ mp2 = 0 ∧ pd2 = 0 ∧ ht2 = 0) → (pC st2 pi2 pd2 a) → (pd2 = 0 → a = 0) → (trp pi2 pd2) → (ru2 ≤ a) → (ht2 ≤ 201) → n - a < kq → ∀ (H : Heap) (locs : List Loc) (ls : Array Slot), va_P (dC, dI) vwCl [(m0, .inr (2, [.int (nI th), .int (nI cap), .ref mK, .ref mT, .ref mU, .ref mV, .int (nI n), .int (nI hi), .int (nI ru2), .ref mL, .int (nI me2), .long (lN mp2), .ref mS, .int (nI pd2), .int (nI ht2)])), (mK, .inl (cI, 4096, .inl K)), (mL, .inl (cI, 4096, .inl (fun j => nI (ln2 j)))), (mS, .inl (cI, 200, .inl (fun j => nI (pi2 j))))] H → va_D A [(m0, .inr (2, [.int (nI th), .int (nI cap), .ref mK, .ref mT, .ref mU, .ref mV, .int (nI n), .int (nI hi), .int (nI ru2), .ref mL, .int (nI me2), .long (lN mp2), .ref mS, .int (nI pd2), .int (nI ht2)])), (mK, .inl (cI, 4096, .inl K)), (mL, .inl (cI, 4096, .inl (fun j => nI (ln2 j)))), (mS, .inl (cI, 200, .inl (fun j => nI (pi2 j))))] → va_S A s.heap H locs → lv_has ls 5 [(2, .int (nI a)), (1, .int (nI (lsR n 0))), (0, .ref m0)] → W p l e rmX2_lookForRuns s m args below meth c H locs 0 0 Q (F0 m 10 ls []) := by
    intro kq
    induction kq with
    | zero =>
      intro a ru2 me2 mp2 pd2 ht2 ln2 pi2 st2 ha hT hini hc2 h0 htr hru hht hm
      exact absurd hm (Nat.not_lt_zero _)
    | succ kq ih_o =>
      intro a ru2 me2 mp2 pd2 ht2 ln2 pi2 st2 ha hT hini hc2 h0 htr hru hht hm H locs ls hP hD hS hl
      refine lv_iload_n hx hb dX2_lookForRuns_10 rfl (lv_at hl 0 rfl) ?_
      refine lv_aload_n hx hb dX2_lookForRuns_11 rfl (lv_at hl 2 rfl) ?_
      refine va_get (D := (dC, dI)) (ci := 2) (v := .int (nI n)) (C := RX2) (T := TX2) (N := 15) hx hb hts hin_2 hown hK hP 0 rfl rfl 6 (by decide) k_1 (fun _ h9 => h9) rfl dX2_lookForRuns_12 ?_
      refine xr_icmp_ge (tgt := 148) hx hb dX2_lookForRuns_15 (by decide) (by omega) (by omega) (fun c_15 => ?_) (fun c_15 => ?_)
      · have L_w : ∀ (kq : Nat) (me5 mp5 pd5 : Nat) (pi5 st5 : Nat → Nat), (fnl pd5 pi5 me5 mp5 = fnl pd2 pi2 me2 mp2) → (pC st5 pi5 pd5 a) → (pd5 ≤ 200) → pd5 < kq → ∀ (H : Heap) (locs : List Loc) (ls : Array Slot), va_P (dC, dI) vwCl [(m0, .inr (2, [.int (nI th), .int (nI cap), .ref mK, .ref mT, .ref mU, .ref mV, .int (nI n), .int (nI hi), .int (nI ru2), .ref mL, .int (nI me5), .long (lN mp5), .ref mS, .int (nI pd5), .int (nI ht2)])), (mK, .inl (cI, 4096, .inl K)), (mL, .inl (cI, 4096, .inl (fun j => nI (ln2 j)))), (mS, .inl (cI, 200, .inl (fun j => nI (pi5 j))))] H → va_D A [(m0, .inr (2, [.int (nI th), .int (nI cap), .ref mK, .ref mT, .ref mU, .ref mV, .int (nI n), .int (nI hi), .int (nI ru2), .ref mL, .int (nI me5), .long (lN mp5), .ref mS, .int (nI pd5), .int (nI ht2)])), (mK, .inl (cI, 4096, .inl K)), (mL, .inl (cI, 4096, .inl (fun j => nI (ln2 j)))), (mS, .inl (cI, 200, .inl (fun j => nI (pi5 j))))] → va_S A s.heap H locs → lv_has ls 5 [(0, .ref m0)] → W p l e rmX2_lookForRuns s m args below meth c H locs 0 0 Q (F0 m 148 ls []) := by
          intro kq
          induction kq with
          | zero =>
            intro me5 mp5 pd5 pi5 st5 hF hc5 hp5 hm
            exact absurd hm (Nat.not_lt_zero _)
          | succ kq ih_w =>
            intro me5 mp5 pd5 pi5 st5 hF hc5 hp5 hm H locs ls hP hD hS hl
            have hle : ∀ j, j < pd5 → pi5 j ≤ 4096 := fun j hj => by have := (hc5.2.2 j hj).2; omega
            refine lv_aload_n hx hb dX2_lookForRuns_148 rfl (lv_at hl 0 rfl) ?_
            refine va_get (D := (dC, dI)) (ci := 2) (v := .int (nI pd5)) (C := RX2) (T := TX2) (N := 15) hx hb hts hin_2 hown hK hP 0 rfl rfl 13 (by decide) k_2 (fun _ h9 => h9) rfl dX2_lookForRuns_149 ?_
            refine lv_iconst (v := nI 1) hx hb dX2_lookForRuns_152 (by decide) ?_
            refine xr_icmp_le (tgt := 199) hx hb dX2_lookForRuns_153 (by decide) (by omega) (by omega) (fun c_153 => ?_) (fun c_153 => ?_)
            · rw [fnl_n (by omega)] at hF
              have hrs : (ru2, ln2, me5, mp5, ht2) = rnQ (kG K) n ln pi := by
                by_cases hn2 : n < 2
                · obtain ⟨z1, z2, z3, z4, z5, z6⟩ := hini hn2
                  rw [z5, fnl_n (by omega), z3, z4] at hF
                  obtain ⟨y1, y2⟩ : me5 = 0 ∧ mp5 = 0 := by simpa only [Prod.mk.injEq] using hF
                  unfold rnQ
                  rw [if_pos hn2, z1, z2, y1, y2, z6]
                · rw [rsF_n (by omega)] at hT
                  unfold rnQ rnP
                  rw [if_neg hn2, ← hT]
                  show _ = (ru2, ln2, (fnl pd2 pi2 me2 mp2).1, (fnl pd2 pi2 me2 mp2).2, ht2)
                  rw [← hF]
              exact hret (ru2, ln2, me5, mp5, pd5, pi5, ht2) _ _ _ _ _ _ (⟨hrs, by omega, by omega⟩) hP hK hD hS (Nat.le_of_ble_eq_true rfl) (Nat.le_of_ble_eq_true rfl) dX2_lookForRuns_199
            · refine lv_aload_n hx hb dX2_lookForRuns_156 rfl (lv_at hl 0 rfl) ?_
              refine lv_aload_n hx hb dX2_lookForRuns_157 rfl (lv_at hl 0 rfl) ?_
              refine va_get (D := (dC, dI)) (ci := 2) (v := .int (nI pd5)) (C := RX2) (T := TX2) (N := 15) hx hb hts hin_2 hown hK hP 0 rfl rfl 13 (by decide) k_2 (fun _ h9 => h9) rfl dX2_lookForRuns_158 ?_
              refine lv_iconst (v := nI 2) hx hb dX2_lookForRuns_161 (by decide) ?_
              refine xr_icmp_le (tgt := 187) hx hb dX2_lookForRuns_162 (by decide) (by omega) (by omega) (fun c_162 => ?_) (fun c_162 => ?_)
              · have hv9 : nI (pd5 - 2) = nI (lwP pi5 pd5) := by unfold lwP; rw [if_neg (by omega)]
                refine lv_aload_n hx hb dX2_lookForRuns_187 rfl (lv_at hl 0 rfl) ?_
                refine va_get (D := (dC, dI)) (ci := 2) (v := .int (nI pd5)) (C := RX2) (T := TX2) (N := 15) hx hb hts hin_2 hown hK hP 0 rfl rfl 13 (by decide) k_2 (fun _ h9 => h9) rfl dX2_lookForRuns_188 ?_
                refine lv_iconst (v := nI 2) hx hb dX2_lookForRuns_191 (by decide) ?_
                refine xr_isub hx hb dX2_lookForRuns_192 (by omega) ?_
                refine xr_top (y := nI (lwP pi5 pd5)) (hv9) ?_
                have hlw := lwP_in (le := pi5) (ct := pd5) (by omega)
                refine call_V_V (As := [.int (nI (lwP pi5 pd5))]) (rest := []) (wr := [(mK, .inl (cI, 4096, .inl K)), (mL, .inl (cI, 4096, .inl (fun j => nI (ln2 j))))]) ⟨hx, hb, hml, hown, hts⟩ (c_X2_join l dC dI cJ cI m0 mK mT mU mV mL mS th cap n hi ru2 me5 mp5 pd5 ht2 pi5 (lwP pi5 pd5) hlw.1 (by omega) (hle _ (by omega)) (hle _ (by omega))) (cwV 1 hts gX2_lookForRuns_X2_join rfl rfl rfl (by decide +kernel) ⟨Nat.le_of_ble_eq_true rfl, Nat.le_of_ble_eq_true rfl⟩) hP hD hK hN hS hA [0, 3] [1, 2] [0, 1] rfl rfl rfl (by decide) (by decide) (by decide) 0 2 rfl rfl rfl rfl hl.1 rfl (Nat.le_of_ble_eq_true rfl) dX2_lookForRuns_193 (Nat.le_of_ble_eq_true rfl) (Nat.le_of_ble_eq_true rfl) (fun u_193 H locs hw_193 hP hD hK1 hS => ?_)
                refine W.widen (k := 0) (n := 0) (Nat.le_of_ble_eq_true rfl) (Nat.le_of_ble_eq_true rfl) ?_
                have hP : va_P (dC, dI) vwCl [(m0, .inr (2, [.int (nI th), .int (nI cap), .ref mK, .ref mT, .ref mU, .ref mV, .int (nI n), .int (nI hi), .int (nI ru2), .ref mL, .int (nI (me5 + 1)), .long (lN (mp5 + (pi5 (lwP pi5 pd5) + pi5 (lwP pi5 pd5 + 1)))), .ref mS, .int (nI (pd5 - 1)), .int (nI ht2)])), (mK, .inl (cI, 4096, .inl K)), (mL, .inl (cI, 4096, .inl (fun j => nI (ln2 j)))), (mS, .inl (cI, 200, .inl (fun j => nI ((jn pi5 pd5 (lwP pi5 pd5)) j))))] H := ct_Psub hP [2, 0, 1, 3] rfl
                have hD : va_D A [(m0, .inr (2, [.int (nI th), .int (nI cap), .ref mK, .ref mT, .ref mU, .ref mV, .int (nI n), .int (nI hi), .int (nI ru2), .ref mL, .int (nI (me5 + 1)), .long (lN (mp5 + (pi5 (lwP pi5 pd5) + pi5 (lwP pi5 pd5 + 1)))), .ref mS, .int (nI (pd5 - 1)), .int (nI ht2)])), (mK, .inl (cI, 4096, .inl K)), (mL, .inl (cI, 4096, .inl (fun j => nI (ln2 j)))), (mS, .inl (cI, 200, .inl (fun j => nI ((jn pi5 pd5 (lwP pi5 pd5)) j))))] := hD.sub [2, 0, 1, 3] (by decide) rfl
                refine lv_goto (tgt := 148) hx hb dX2_lookForRuns_196 (by decide) ?_
                exact ih_w (me5 + 1) (mp5 + (pi5 (lwP pi5 pd5) + pi5 (lwP pi5 pd5 + 1))) (pd5 - 1) (jn pi5 pd5 (lwP pi5 pd5)) (shf st5 (lwP pi5 pd5 + 1) (pd5 - 1)) ((fnl_s (le := pi5) (ct := pd5) (me := me5) (mp := mp5) (by omega)).symm.trans hF) (pC_jn hlw.1 hc5) (by omega) (by omega) _ _ _ hP hD hS (lv_sub hl [0] rfl)
              · refine lv_aload_n hx hb dX2_lookForRuns_165 rfl (lv_at hl 0 rfl) ?_
                refine lv_iconst (v := nI 2) hx hb dX2_lookForRuns_166 (by decide) ?_
                refine call_V_I (As := [.int (nI 2)]) (rest := [.ref m0]) (wr := [(mK, .inl (cI, 4096, .inl K)), (mL, .inl (cI, 4096, .inl (fun j => nI (ln2 j))))]) ⟨hx, hb, hml, hown, hts⟩ (c_X2_fromTop l dC dI cJ cI m0 mK mT mU mV mL mS th cap n hi ru2 me5 mp5 pd5 ht2 pi5 2 (by omega) (by omega)) (cwV 1 hts gX2_lookForRuns_X2_fromTop rfl rfl rfl (by decide +kernel) ⟨Nat.le_of_ble_eq_true rfl, Nat.le_of_ble_eq_true rfl⟩) hP hD hK hN hS hA [0, 3] [1, 2] [0, 1] rfl rfl rfl (by decide) (by decide) (by decide) 0 2 rfl rfl rfl rfl hl.1 rfl (Nat.le_of_ble_eq_true rfl) dX2_lookForRuns_167 (Nat.le_of_ble_eq_true rfl) (Nat.le_of_ble_eq_true rfl) (fun r_167 u_167 H locs hw_167 hP hD hK1 hS => ?_)
                refine W.widen (k := 0) (n := 0) (Nat.le_of_ble_eq_true rfl) (Nat.le_of_ble_eq_true rfl) ?_
                have hP : va_P (dC, dI) vwCl [(m0, .inr (2, [.int (nI th), .int (nI cap), .ref mK, .ref mT, .ref mU, .ref mV, .int (nI n), .int (nI hi), .int (nI ru2), .ref mL, .int (nI me5), .long (lN mp5), .ref mS, .int (nI pd5), .int (nI ht2)])), (mK, .inl (cI, 4096, .inl K)), (mL, .inl (cI, 4096, .inl (fun j => nI (ln2 j)))), (mS, .inl (cI, 200, .inl (fun j => nI (pi5 j))))] H := ct_Psub hP [2, 0, 1, 3] rfl
                have hD : va_D A [(m0, .inr (2, [.int (nI th), .int (nI cap), .ref mK, .ref mT, .ref mU, .ref mV, .int (nI n), .int (nI hi), .int (nI ru2), .ref mL, .int (nI me5), .long (lN mp5), .ref mS, .int (nI pd5), .int (nI ht2)])), (mK, .inl (cI, 4096, .inl K)), (mL, .inl (cI, 4096, .inl (fun j => nI (ln2 j)))), (mS, .inl (cI, 200, .inl (fun j => nI (pi5 j))))] := hD.sub [2, 0, 1, 3] (by decide) rfl
                refine xr_top (y := nI (pi5 (pd5 - 3))) (hw_167.trans (by rw [show pd5 - 1 - 2 = pd5 - 3 by omega])) ?_
                have b167 := hle (pd5 - 3) (by omega)
                refine lv_aload_n hx hb dX2_lookForRuns_170 rfl (lv_at hl 0 rfl) ?_
                refine lv_iconst (v := nI 0) hx hb dX2_lookForRuns_171 (by decide) ?_
                refine call_V_I (As := [.int (nI 0)]) (rest := [.int (nI (pi5 (pd5 - 3))), .ref m0]) (wr := [(mK, .inl (cI, 4096, .inl K)), (mL, .inl (cI, 4096, .inl (fun j => nI (ln2 j))))]) ⟨hx, hb, hml, hown, hts⟩ (c_X2_fromTop l dC dI cJ cI m0 mK mT mU mV mL mS th cap n hi ru2 me5 mp5 pd5 ht2 pi5 0 (by omega) (by omega)) (cwV 1 hts gX2_lookForRuns_X2_fromTop rfl rfl rfl (by decide +kernel) ⟨Nat.le_of_ble_eq_true rfl, Nat.le_of_ble_eq_true rfl⟩) hP hD hK hN hS hA [0, 3] [1, 2] [0, 1] rfl rfl rfl (by decide) (by decide) (by decide) 0 2 rfl rfl rfl rfl hl.1 rfl (Nat.le_of_ble_eq_true rfl) dX2_lookForRuns_172 (Nat.le_of_ble_eq_true rfl) (Nat.le_of_ble_eq_true rfl) (fun r_172 u_172 H locs hw_172 hP hD hK1 hS => ?_)
                refine W.widen (k := 0) (n := 0) (Nat.le_of_ble_eq_true rfl) (Nat.le_of_ble_eq_true rfl) ?_
                have hP : va_P (dC, dI) vwCl [(m0, .inr (2, [.int (nI th), .int (nI cap), .ref mK, .ref mT, .ref mU, .ref mV, .int (nI n), .int (nI hi), .int (nI ru2), .ref mL, .int (nI me5), .long (lN mp5), .ref mS, .int (nI pd5), .int (nI ht2)])), (mK, .inl (cI, 4096, .inl K)), (mL, .inl (cI, 4096, .inl (fun j => nI (ln2 j)))), (mS, .inl (cI, 200, .inl (fun j => nI (pi5 j))))] H := ct_Psub hP [2, 0, 1, 3] rfl
                have hD : va_D A [(m0, .inr (2, [.int (nI th), .int (nI cap), .ref mK, .ref mT, .ref mU, .ref mV, .int (nI n), .int (nI hi), .int (nI ru2), .ref mL, .int (nI me5), .long (lN mp5), .ref mS, .int (nI pd5), .int (nI ht2)])), (mK, .inl (cI, 4096, .inl K)), (mL, .inl (cI, 4096, .inl (fun j => nI (ln2 j)))), (mS, .inl (cI, 200, .inl (fun j => nI (pi5 j))))] := hD.sub [2, 0, 1, 3] (by decide) rfl
                refine xr_top (y := nI (pi5 (pd5 - 1))) (hw_172.trans (by rw [show pd5 - 1 - 0 = pd5 - 1 by omega])) ?_
                have b172 := hle (pd5 - 1) (by omega)
                refine xr_icmp_ge (tgt := 187) hx hb dX2_lookForRuns_175 (by decide) (by omega) (by omega) (fun c_175 => ?_) (fun c_175 => ?_)
                · have hv9 : nI (pd5 - 2) = nI (lwP pi5 pd5) := by unfold lwP; rw [if_neg (by omega)]
                  refine lv_aload_n hx hb dX2_lookForRuns_187 rfl (lv_at hl 0 rfl) ?_
                  refine va_get (D := (dC, dI)) (ci := 2) (v := .int (nI pd5)) (C := RX2) (T := TX2) (N := 15) hx hb hts hin_2 hown hK hP 0 rfl rfl 13 (by decide) k_2 (fun _ h9 => h9) rfl dX2_lookForRuns_188 ?_
                  refine lv_iconst (v := nI 2) hx hb dX2_lookForRuns_191 (by decide) ?_
                  refine xr_isub hx hb dX2_lookForRuns_192 (by omega) ?_
                  refine xr_top (y := nI (lwP pi5 pd5)) (hv9) ?_
                  have hlw := lwP_in (le := pi5) (ct := pd5) (by omega)
                  refine call_V_V (As := [.int (nI (lwP pi5 pd5))]) (rest := []) (wr := [(mK, .inl (cI, 4096, .inl K)), (mL, .inl (cI, 4096, .inl (fun j => nI (ln2 j))))]) ⟨hx, hb, hml, hown, hts⟩ (c_X2_join l dC dI cJ cI m0 mK mT mU mV mL mS th cap n hi ru2 me5 mp5 pd5 ht2 pi5 (lwP pi5 pd5) hlw.1 (by omega) (hle _ (by omega)) (hle _ (by omega))) (cwV 1 hts gX2_lookForRuns_X2_join rfl rfl rfl (by decide +kernel) ⟨Nat.le_of_ble_eq_true rfl, Nat.le_of_ble_eq_true rfl⟩) hP hD hK hN hS hA [0, 3] [1, 2] [0, 1] rfl rfl rfl (by decide) (by decide) (by decide) 0 2 rfl rfl rfl rfl hl.1 rfl (Nat.le_of_ble_eq_true rfl) dX2_lookForRuns_193 (Nat.le_of_ble_eq_true rfl) (Nat.le_of_ble_eq_true rfl) (fun u_193 H locs hw_193 hP hD hK1 hS => ?_)
                  refine W.widen (k := 0) (n := 0) (Nat.le_of_ble_eq_true rfl) (Nat.le_of_ble_eq_true rfl) ?_
                  have hP : va_P (dC, dI) vwCl [(m0, .inr (2, [.int (nI th), .int (nI cap), .ref mK, .ref mT, .ref mU, .ref mV, .int (nI n), .int (nI hi), .int (nI ru2), .ref mL, .int (nI (me5 + 1)), .long (lN (mp5 + (pi5 (lwP pi5 pd5) + pi5 (lwP pi5 pd5 + 1)))), .ref mS, .int (nI (pd5 - 1)), .int (nI ht2)])), (mK, .inl (cI, 4096, .inl K)), (mL, .inl (cI, 4096, .inl (fun j => nI (ln2 j)))), (mS, .inl (cI, 200, .inl (fun j => nI ((jn pi5 pd5 (lwP pi5 pd5)) j))))] H := ct_Psub hP [2, 0, 1, 3] rfl
                  have hD : va_D A [(m0, .inr (2, [.int (nI th), .int (nI cap), .ref mK, .ref mT, .ref mU, .ref mV, .int (nI n), .int (nI hi), .int (nI ru2), .ref mL, .int (nI (me5 + 1)), .long (lN (mp5 + (pi5 (lwP pi5 pd5) + pi5 (lwP pi5 pd5 + 1)))), .ref mS, .int (nI (pd5 - 1)), .int (nI ht2)])), (mK, .inl (cI, 4096, .inl K)), (mL, .inl (cI, 4096, .inl (fun j => nI (ln2 j)))), (mS, .inl (cI, 200, .inl (fun j => nI ((jn pi5 pd5 (lwP pi5 pd5)) j))))] := hD.sub [2, 0, 1, 3] (by decide) rfl
                  refine lv_goto (tgt := 148) hx hb dX2_lookForRuns_196 (by decide) ?_
                  exact ih_w (me5 + 1) (mp5 + (pi5 (lwP pi5 pd5) + pi5 (lwP pi5 pd5 + 1))) (pd5 - 1) (jn pi5 pd5 (lwP pi5 pd5)) (shf st5 (lwP pi5 pd5 + 1) (pd5 - 1)) ((fnl_s (le := pi5) (ct := pd5) (me := me5) (mp := mp5) (by omega)).symm.trans hF) (pC_jn hlw.1 hc5) (by omega) (by omega) _ _ _ hP hD hS (lv_sub hl [0] rfl)
                · have hv9 : nI (pd5 - 3) = nI (lwP pi5 pd5) := by unfold lwP; rw [if_pos (by omega)]
                  refine lv_aload_n hx hb dX2_lookForRuns_178 rfl (lv_at hl 0 rfl) ?_
                  refine va_get (D := (dC, dI)) (ci := 2) (v := .int (nI pd5)) (C := RX2) (T := TX2) (N := 15) hx hb hts hin_2 hown hK hP 0 rfl rfl 13 (by decide) k_2 (fun _ h9 => h9) rfl dX2_lookForRuns_179 ?_
                  refine lv_iconst (v := nI 3) hx hb dX2_lookForRuns_182 (by decide) ?_
                  refine xr_isub hx hb dX2_lookForRuns_183 (by omega) ?_
                  refine lv_goto (tgt := 193) hx hb dX2_lookForRuns_184 (by decide) ?_
                  refine xr_top (y := nI (lwP pi5 pd5)) (hv9) ?_
                  have hlw := lwP_in (le := pi5) (ct := pd5) (by omega)
                  refine call_V_V (As := [.int (nI (lwP pi5 pd5))]) (rest := []) (wr := [(mK, .inl (cI, 4096, .inl K)), (mL, .inl (cI, 4096, .inl (fun j => nI (ln2 j))))]) ⟨hx, hb, hml, hown, hts⟩ (c_X2_join l dC dI cJ cI m0 mK mT mU mV mL mS th cap n hi ru2 me5 mp5 pd5 ht2 pi5 (lwP pi5 pd5) hlw.1 (by omega) (hle _ (by omega)) (hle _ (by omega))) (cwV 1 hts gX2_lookForRuns_X2_join rfl rfl rfl (by decide +kernel) ⟨Nat.le_of_ble_eq_true rfl, Nat.le_of_ble_eq_true rfl⟩) hP hD hK hN hS hA [0, 3] [1, 2] [0, 1] rfl rfl rfl (by decide) (by decide) (by decide) 0 2 rfl rfl rfl rfl hl.1 rfl (Nat.le_of_ble_eq_true rfl) dX2_lookForRuns_193 (Nat.le_of_ble_eq_true rfl) (Nat.le_of_ble_eq_true rfl) (fun u_193 H locs hw_193 hP hD hK1 hS => ?_)
                  refine W.widen (k := 0) (n := 0) (Nat.le_of_ble_eq_true rfl) (Nat.le_of_ble_eq_true rfl) ?_
                  have hP : va_P (dC, dI) vwCl [(m0, .inr (2, [.int (nI th), .int (nI cap), .ref mK, .ref mT, .ref mU, .ref mV, .int (nI n), .int (nI hi), .int (nI ru2), .ref mL, .int (nI (me5 + 1)), .long (lN (mp5 + (pi5 (lwP pi5 pd5) + pi5 (lwP pi5 pd5 + 1)))), .ref mS, .int (nI (pd5 - 1)), .int (nI ht2)])), (mK, .inl (cI, 4096, .inl K)), (mL, .inl (cI, 4096, .inl (fun j => nI (ln2 j)))), (mS, .inl (cI, 200, .inl (fun j => nI ((jn pi5 pd5 (lwP pi5 pd5)) j))))] H := ct_Psub hP [2, 0, 1, 3] rfl
                  have hD : va_D A [(m0, .inr (2, [.int (nI th), .int (nI cap), .ref mK, .ref mT, .ref mU, .ref mV, .int (nI n), .int (nI hi), .int (nI ru2), .ref mL, .int (nI (me5 + 1)), .long (lN (mp5 + (pi5 (lwP pi5 pd5) + pi5 (lwP pi5 pd5 + 1)))), .ref mS, .int (nI (pd5 - 1)), .int (nI ht2)])), (mK, .inl (cI, 4096, .inl K)), (mL, .inl (cI, 4096, .inl (fun j => nI (ln2 j)))), (mS, .inl (cI, 200, .inl (fun j => nI ((jn pi5 pd5 (lwP pi5 pd5)) j))))] := hD.sub [2, 0, 1, 3] (by decide) rfl
                  refine lv_goto (tgt := 148) hx hb dX2_lookForRuns_196 (by decide) ?_
                  exact ih_w (me5 + 1) (mp5 + (pi5 (lwP pi5 pd5) + pi5 (lwP pi5 pd5 + 1))) (pd5 - 1) (jn pi5 pd5 (lwP pi5 pd5)) (shf st5 (lwP pi5 pd5 + 1) (pd5 - 1)) ((fnl_s (le := pi5) (ct := pd5) (me := me5) (mp := mp5) (by omega)).symm.trans hF) (pC_jn hlw.1 hc5) (by omega) (by omega) _ _ _ hP hD hS (lv_sub hl [0] rfl)
        exact L_w (_ + 1) me2 mp2 pd2 pi2 st2 rfl hc2 (by have := trp_ct htr hc2 (by omega); omega) (Nat.lt_succ_self _) _ _ _ hP hD hS (lv_sub hl [2] rfl)
      · refine lv_aload_n hx hb dX2_lookForRuns_18 rfl (lv_at hl 2 rfl) ?_
        refine va_get (D := (dC, dI)) (ci := 2) (v := .int (nI n)) (C := RX2) (T := TX2) (N := 15) hx hb hts hin_2 hown hK hP 0 rfl rfl 6 (by decide) k_1 (fun _ h9 => h9) rfl dX2_lookForRuns_19 ?_
        refine lv_iconst (v := nI 1) hx hb dX2_lookForRuns_22 (by decide) ?_
        refine xr_icmp_le (tgt := 148) hx hb dX2_lookForRuns_23 (by decide) (by omega) (by omega) (fun c_23 => ?_) (fun c_23 => ?_)
        · have L_w : ∀ (kq : Nat) (me5 mp5 pd5 : Nat) (pi5 st5 : Nat → Nat), (fnl pd5 pi5 me5 mp5 = fnl pd2 pi2 me2 mp2) → (pC st5 pi5 pd5 a) → (pd5 ≤ 200) → pd5 < kq → ∀ (H : Heap) (locs : List Loc) (ls : Array Slot), va_P (dC, dI) vwCl [(m0, .inr (2, [.int (nI th), .int (nI cap), .ref mK, .ref mT, .ref mU, .ref mV, .int (nI n), .int (nI hi), .int (nI ru2), .ref mL, .int (nI me5), .long (lN mp5), .ref mS, .int (nI pd5), .int (nI ht2)])), (mK, .inl (cI, 4096, .inl K)), (mL, .inl (cI, 4096, .inl (fun j => nI (ln2 j)))), (mS, .inl (cI, 200, .inl (fun j => nI (pi5 j))))] H → va_D A [(m0, .inr (2, [.int (nI th), .int (nI cap), .ref mK, .ref mT, .ref mU, .ref mV, .int (nI n), .int (nI hi), .int (nI ru2), .ref mL, .int (nI me5), .long (lN mp5), .ref mS, .int (nI pd5), .int (nI ht2)])), (mK, .inl (cI, 4096, .inl K)), (mL, .inl (cI, 4096, .inl (fun j => nI (ln2 j)))), (mS, .inl (cI, 200, .inl (fun j => nI (pi5 j))))] → va_S A s.heap H locs → lv_has ls 5 [(0, .ref m0)] → W p l e rmX2_lookForRuns s m args below meth c H locs 0 0 Q (F0 m 148 ls []) := by
            intro kq
            induction kq with
            | zero =>
              intro me5 mp5 pd5 pi5 st5 hF hc5 hp5 hm
              exact absurd hm (Nat.not_lt_zero _)
            | succ kq ih_w =>
              intro me5 mp5 pd5 pi5 st5 hF hc5 hp5 hm H locs ls hP hD hS hl
              have hle : ∀ j, j < pd5 → pi5 j ≤ 4096 := fun j hj => by have := (hc5.2.2 j hj).2; omega
              refine lv_aload_n hx hb dX2_lookForRuns_148 rfl (lv_at hl 0 rfl) ?_
              refine va_get (D := (dC, dI)) (ci := 2) (v := .int (nI pd5)) (C := RX2) (T := TX2) (N := 15) hx hb hts hin_2 hown hK hP 0 rfl rfl 13 (by decide) k_2 (fun _ h9 => h9) rfl dX2_lookForRuns_149 ?_
              refine lv_iconst (v := nI 1) hx hb dX2_lookForRuns_152 (by decide) ?_
              refine xr_icmp_le (tgt := 199) hx hb dX2_lookForRuns_153 (by decide) (by omega) (by omega) (fun c_153 => ?_) (fun c_153 => ?_)
              · rw [fnl_n (by omega)] at hF
                have hrs : (ru2, ln2, me5, mp5, ht2) = rnQ (kG K) n ln pi := by
                  by_cases hn2 : n < 2
                  · obtain ⟨z1, z2, z3, z4, z5, z6⟩ := hini hn2
                    rw [z5, fnl_n (by omega), z3, z4] at hF
                    obtain ⟨y1, y2⟩ : me5 = 0 ∧ mp5 = 0 := by simpa only [Prod.mk.injEq] using hF
                    unfold rnQ
                    rw [if_pos hn2, z1, z2, y1, y2, z6]
                  · rw [rsF_n (by omega)] at hT
                    unfold rnQ rnP
                    rw [if_neg hn2, ← hT]
                    show _ = (ru2, ln2, (fnl pd2 pi2 me2 mp2).1, (fnl pd2 pi2 me2 mp2).2, ht2)
                    rw [← hF]
                exact hret (ru2, ln2, me5, mp5, pd5, pi5, ht2) _ _ _ _ _ _ (⟨hrs, by omega, by omega⟩) hP hK hD hS (Nat.le_of_ble_eq_true rfl) (Nat.le_of_ble_eq_true rfl) dX2_lookForRuns_199
              · refine lv_aload_n hx hb dX2_lookForRuns_156 rfl (lv_at hl 0 rfl) ?_
                refine lv_aload_n hx hb dX2_lookForRuns_157 rfl (lv_at hl 0 rfl) ?_
                refine va_get (D := (dC, dI)) (ci := 2) (v := .int (nI pd5)) (C := RX2) (T := TX2) (N := 15) hx hb hts hin_2 hown hK hP 0 rfl rfl 13 (by decide) k_2 (fun _ h9 => h9) rfl dX2_lookForRuns_158 ?_
                refine lv_iconst (v := nI 2) hx hb dX2_lookForRuns_161 (by decide) ?_
                refine xr_icmp_le (tgt := 187) hx hb dX2_lookForRuns_162 (by decide) (by omega) (by omega) (fun c_162 => ?_) (fun c_162 => ?_)
                · have hv9 : nI (pd5 - 2) = nI (lwP pi5 pd5) := by unfold lwP; rw [if_neg (by omega)]
                  refine lv_aload_n hx hb dX2_lookForRuns_187 rfl (lv_at hl 0 rfl) ?_
                  refine va_get (D := (dC, dI)) (ci := 2) (v := .int (nI pd5)) (C := RX2) (T := TX2) (N := 15) hx hb hts hin_2 hown hK hP 0 rfl rfl 13 (by decide) k_2 (fun _ h9 => h9) rfl dX2_lookForRuns_188 ?_
                  refine lv_iconst (v := nI 2) hx hb dX2_lookForRuns_191 (by decide) ?_
                  refine xr_isub hx hb dX2_lookForRuns_192 (by omega) ?_
                  refine xr_top (y := nI (lwP pi5 pd5)) (hv9) ?_
                  have hlw := lwP_in (le := pi5) (ct := pd5) (by omega)
                  refine call_V_V (As := [.int (nI (lwP pi5 pd5))]) (rest := []) (wr := [(mK, .inl (cI, 4096, .inl K)), (mL, .inl (cI, 4096, .inl (fun j => nI (ln2 j))))]) ⟨hx, hb, hml, hown, hts⟩ (c_X2_join l dC dI cJ cI m0 mK mT mU mV mL mS th cap n hi ru2 me5 mp5 pd5 ht2 pi5 (lwP pi5 pd5) hlw.1 (by omega) (hle _ (by omega)) (hle _ (by omega))) (cwV 1 hts gX2_lookForRuns_X2_join rfl rfl rfl (by decide +kernel) ⟨Nat.le_of_ble_eq_true rfl, Nat.le_of_ble_eq_true rfl⟩) hP hD hK hN hS hA [0, 3] [1, 2] [0, 1] rfl rfl rfl (by decide) (by decide) (by decide) 0 2 rfl rfl rfl rfl hl.1 rfl (Nat.le_of_ble_eq_true rfl) dX2_lookForRuns_193 (Nat.le_of_ble_eq_true rfl) (Nat.le_of_ble_eq_true rfl) (fun u_193 H locs hw_193 hP hD hK1 hS => ?_)
                  refine W.widen (k := 0) (n := 0) (Nat.le_of_ble_eq_true rfl) (Nat.le_of_ble_eq_true rfl) ?_
                  have hP : va_P (dC, dI) vwCl [(m0, .inr (2, [.int (nI th), .int (nI cap), .ref mK, .ref mT, .ref mU, .ref mV, .int (nI n), .int (nI hi), .int (nI ru2), .ref mL, .int (nI (me5 + 1)), .long (lN (mp5 + (pi5 (lwP pi5 pd5) + pi5 (lwP pi5 pd5 + 1)))), .ref mS, .int (nI (pd5 - 1)), .int (nI ht2)])), (mK, .inl (cI, 4096, .inl K)), (mL, .inl (cI, 4096, .inl (fun j => nI (ln2 j)))), (mS, .inl (cI, 200, .inl (fun j => nI ((jn pi5 pd5 (lwP pi5 pd5)) j))))] H := ct_Psub hP [2, 0, 1, 3] rfl
                  have hD : va_D A [(m0, .inr (2, [.int (nI th), .int (nI cap), .ref mK, .ref mT, .ref mU, .ref mV, .int (nI n), .int (nI hi), .int (nI ru2), .ref mL, .int (nI (me5 + 1)), .long (lN (mp5 + (pi5 (lwP pi5 pd5) + pi5 (lwP pi5 pd5 + 1)))), .ref mS, .int (nI (pd5 - 1)), .int (nI ht2)])), (mK, .inl (cI, 4096, .inl K)), (mL, .inl (cI, 4096, .inl (fun j => nI (ln2 j)))), (mS, .inl (cI, 200, .inl (fun j => nI ((jn pi5 pd5 (lwP pi5 pd5)) j))))] := hD.sub [2, 0, 1, 3] (by decide) rfl
                  refine lv_goto (tgt := 148) hx hb dX2_lookForRuns_196 (by decide) ?_
                  exact ih_w (me5 + 1) (mp5 + (pi5 (lwP pi5 pd5) + pi5 (lwP pi5 pd5 + 1))) (pd5 - 1) (jn pi5 pd5 (lwP pi5 pd5)) (shf st5 (lwP pi5 pd5 + 1) (pd5 - 1)) ((fnl_s (le := pi5) (ct := pd5) (me := me5) (mp := mp5) (by omega)).symm.trans hF) (pC_jn hlw.1 hc5) (by omega) (by omega) _ _ _ hP hD hS (lv_sub hl [0] rfl)
                · refine lv_aload_n hx hb dX2_lookForRuns_165 rfl (lv_at hl 0 rfl) ?_
                  refine lv_iconst (v := nI 2) hx hb dX2_lookForRuns_166 (by decide) ?_
                  refine call_V_I (As := [.int (nI 2)]) (rest := [.ref m0]) (wr := [(mK, .inl (cI, 4096, .inl K)), (mL, .inl (cI, 4096, .inl (fun j => nI (ln2 j))))]) ⟨hx, hb, hml, hown, hts⟩ (c_X2_fromTop l dC dI cJ cI m0 mK mT mU mV mL mS th cap n hi ru2 me5 mp5 pd5 ht2 pi5 2 (by omega) (by omega)) (cwV 1 hts gX2_lookForRuns_X2_fromTop rfl rfl rfl (by decide +kernel) ⟨Nat.le_of_ble_eq_true rfl, Nat.le_of_ble_eq_true rfl⟩) hP hD hK hN hS hA [0, 3] [1, 2] [0, 1] rfl rfl rfl (by decide) (by decide) (by decide) 0 2 rfl rfl rfl rfl hl.1 rfl (Nat.le_of_ble_eq_true rfl) dX2_lookForRuns_167 (Nat.le_of_ble_eq_true rfl) (Nat.le_of_ble_eq_true rfl) (fun r_167 u_167 H locs hw_167 hP hD hK1 hS => ?_)
                  refine W.widen (k := 0) (n := 0) (Nat.le_of_ble_eq_true rfl) (Nat.le_of_ble_eq_true rfl) ?_
                  have hP : va_P (dC, dI) vwCl [(m0, .inr (2, [.int (nI th), .int (nI cap), .ref mK, .ref mT, .ref mU, .ref mV, .int (nI n), .int (nI hi), .int (nI ru2), .ref mL, .int (nI me5), .long (lN mp5), .ref mS, .int (nI pd5), .int (nI ht2)])), (mK, .inl (cI, 4096, .inl K)), (mL, .inl (cI, 4096, .inl (fun j => nI (ln2 j)))), (mS, .inl (cI, 200, .inl (fun j => nI (pi5 j))))] H := ct_Psub hP [2, 0, 1, 3] rfl
                  have hD : va_D A [(m0, .inr (2, [.int (nI th), .int (nI cap), .ref mK, .ref mT, .ref mU, .ref mV, .int (nI n), .int (nI hi), .int (nI ru2), .ref mL, .int (nI me5), .long (lN mp5), .ref mS, .int (nI pd5), .int (nI ht2)])), (mK, .inl (cI, 4096, .inl K)), (mL, .inl (cI, 4096, .inl (fun j => nI (ln2 j)))), (mS, .inl (cI, 200, .inl (fun j => nI (pi5 j))))] := hD.sub [2, 0, 1, 3] (by decide) rfl
                  refine xr_top (y := nI (pi5 (pd5 - 3))) (hw_167.trans (by rw [show pd5 - 1 - 2 = pd5 - 3 by omega])) ?_
                  have b167 := hle (pd5 - 3) (by omega)
                  refine lv_aload_n hx hb dX2_lookForRuns_170 rfl (lv_at hl 0 rfl) ?_
                  refine lv_iconst (v := nI 0) hx hb dX2_lookForRuns_171 (by decide) ?_
                  refine call_V_I (As := [.int (nI 0)]) (rest := [.int (nI (pi5 (pd5 - 3))), .ref m0]) (wr := [(mK, .inl (cI, 4096, .inl K)), (mL, .inl (cI, 4096, .inl (fun j => nI (ln2 j))))]) ⟨hx, hb, hml, hown, hts⟩ (c_X2_fromTop l dC dI cJ cI m0 mK mT mU mV mL mS th cap n hi ru2 me5 mp5 pd5 ht2 pi5 0 (by omega) (by omega)) (cwV 1 hts gX2_lookForRuns_X2_fromTop rfl rfl rfl (by decide +kernel) ⟨Nat.le_of_ble_eq_true rfl, Nat.le_of_ble_eq_true rfl⟩) hP hD hK hN hS hA [0, 3] [1, 2] [0, 1] rfl rfl rfl (by decide) (by decide) (by decide) 0 2 rfl rfl rfl rfl hl.1 rfl (Nat.le_of_ble_eq_true rfl) dX2_lookForRuns_172 (Nat.le_of_ble_eq_true rfl) (Nat.le_of_ble_eq_true rfl) (fun r_172 u_172 H locs hw_172 hP hD hK1 hS => ?_)
                  refine W.widen (k := 0) (n := 0) (Nat.le_of_ble_eq_true rfl) (Nat.le_of_ble_eq_true rfl) ?_
                  have hP : va_P (dC, dI) vwCl [(m0, .inr (2, [.int (nI th), .int (nI cap), .ref mK, .ref mT, .ref mU, .ref mV, .int (nI n), .int (nI hi), .int (nI ru2), .ref mL, .int (nI me5), .long (lN mp5), .ref mS, .int (nI pd5), .int (nI ht2)])), (mK, .inl (cI, 4096, .inl K)), (mL, .inl (cI, 4096, .inl (fun j => nI (ln2 j)))), (mS, .inl (cI, 200, .inl (fun j => nI (pi5 j))))] H := ct_Psub hP [2, 0, 1, 3] rfl
                  have hD : va_D A [(m0, .inr (2, [.int (nI th), .int (nI cap), .ref mK, .ref mT, .ref mU, .ref mV, .int (nI n), .int (nI hi), .int (nI ru2), .ref mL, .int (nI me5), .long (lN mp5), .ref mS, .int (nI pd5), .int (nI ht2)])), (mK, .inl (cI, 4096, .inl K)), (mL, .inl (cI, 4096, .inl (fun j => nI (ln2 j)))), (mS, .inl (cI, 200, .inl (fun j => nI (pi5 j))))] := hD.sub [2, 0, 1, 3] (by decide) rfl
                  refine xr_top (y := nI (pi5 (pd5 - 1))) (hw_172.trans (by rw [show pd5 - 1 - 0 = pd5 - 1 by omega])) ?_
                  have b172 := hle (pd5 - 1) (by omega)
                  refine xr_icmp_ge (tgt := 187) hx hb dX2_lookForRuns_175 (by decide) (by omega) (by omega) (fun c_175 => ?_) (fun c_175 => ?_)
                  · have hv9 : nI (pd5 - 2) = nI (lwP pi5 pd5) := by unfold lwP; rw [if_neg (by omega)]
                    refine lv_aload_n hx hb dX2_lookForRuns_187 rfl (lv_at hl 0 rfl) ?_
                    refine va_get (D := (dC, dI)) (ci := 2) (v := .int (nI pd5)) (C := RX2) (T := TX2) (N := 15) hx hb hts hin_2 hown hK hP 0 rfl rfl 13 (by decide) k_2 (fun _ h9 => h9) rfl dX2_lookForRuns_188 ?_
                    refine lv_iconst (v := nI 2) hx hb dX2_lookForRuns_191 (by decide) ?_
                    refine xr_isub hx hb dX2_lookForRuns_192 (by omega) ?_
                    refine xr_top (y := nI (lwP pi5 pd5)) (hv9) ?_
                    have hlw := lwP_in (le := pi5) (ct := pd5) (by omega)
                    refine call_V_V (As := [.int (nI (lwP pi5 pd5))]) (rest := []) (wr := [(mK, .inl (cI, 4096, .inl K)), (mL, .inl (cI, 4096, .inl (fun j => nI (ln2 j))))]) ⟨hx, hb, hml, hown, hts⟩ (c_X2_join l dC dI cJ cI m0 mK mT mU mV mL mS th cap n hi ru2 me5 mp5 pd5 ht2 pi5 (lwP pi5 pd5) hlw.1 (by omega) (hle _ (by omega)) (hle _ (by omega))) (cwV 1 hts gX2_lookForRuns_X2_join rfl rfl rfl (by decide +kernel) ⟨Nat.le_of_ble_eq_true rfl, Nat.le_of_ble_eq_true rfl⟩) hP hD hK hN hS hA [0, 3] [1, 2] [0, 1] rfl rfl rfl (by decide) (by decide) (by decide) 0 2 rfl rfl rfl rfl hl.1 rfl (Nat.le_of_ble_eq_true rfl) dX2_lookForRuns_193 (Nat.le_of_ble_eq_true rfl) (Nat.le_of_ble_eq_true rfl) (fun u_193 H locs hw_193 hP hD hK1 hS => ?_)
                    refine W.widen (k := 0) (n := 0) (Nat.le_of_ble_eq_true rfl) (Nat.le_of_ble_eq_true rfl) ?_
                    have hP : va_P (dC, dI) vwCl [(m0, .inr (2, [.int (nI th), .int (nI cap), .ref mK, .ref mT, .ref mU, .ref mV, .int (nI n), .int (nI hi), .int (nI ru2), .ref mL, .int (nI (me5 + 1)), .long (lN (mp5 + (pi5 (lwP pi5 pd5) + pi5 (lwP pi5 pd5 + 1)))), .ref mS, .int (nI (pd5 - 1)), .int (nI ht2)])), (mK, .inl (cI, 4096, .inl K)), (mL, .inl (cI, 4096, .inl (fun j => nI (ln2 j)))), (mS, .inl (cI, 200, .inl (fun j => nI ((jn pi5 pd5 (lwP pi5 pd5)) j))))] H := ct_Psub hP [2, 0, 1, 3] rfl
                    have hD : va_D A [(m0, .inr (2, [.int (nI th), .int (nI cap), .ref mK, .ref mT, .ref mU, .ref mV, .int (nI n), .int (nI hi), .int (nI ru2), .ref mL, .int (nI (me5 + 1)), .long (lN (mp5 + (pi5 (lwP pi5 pd5) + pi5 (lwP pi5 pd5 + 1)))), .ref mS, .int (nI (pd5 - 1)), .int (nI ht2)])), (mK, .inl (cI, 4096, .inl K)), (mL, .inl (cI, 4096, .inl (fun j => nI (ln2 j)))), (mS, .inl (cI, 200, .inl (fun j => nI ((jn pi5 pd5 (lwP pi5 pd5)) j))))] := hD.sub [2, 0, 1, 3] (by decide) rfl
                    refine lv_goto (tgt := 148) hx hb dX2_lookForRuns_196 (by decide) ?_
                    exact ih_w (me5 + 1) (mp5 + (pi5 (lwP pi5 pd5) + pi5 (lwP pi5 pd5 + 1))) (pd5 - 1) (jn pi5 pd5 (lwP pi5 pd5)) (shf st5 (lwP pi5 pd5 + 1) (pd5 - 1)) ((fnl_s (le := pi5) (ct := pd5) (me := me5) (mp := mp5) (by omega)).symm.trans hF) (pC_jn hlw.1 hc5) (by omega) (by omega) _ _ _ hP hD hS (lv_sub hl [0] rfl)
                  · have hv9 : nI (pd5 - 3) = nI (lwP pi5 pd5) := by unfold lwP; rw [if_pos (by omega)]
                    refine lv_aload_n hx hb dX2_lookForRuns_178 rfl (lv_at hl 0 rfl) ?_
                    refine va_get (D := (dC, dI)) (ci := 2) (v := .int (nI pd5)) (C := RX2) (T := TX2) (N := 15) hx hb hts hin_2 hown hK hP 0 rfl rfl 13 (by decide) k_2 (fun _ h9 => h9) rfl dX2_lookForRuns_179 ?_
                    refine lv_iconst (v := nI 3) hx hb dX2_lookForRuns_182 (by decide) ?_
                    refine xr_isub hx hb dX2_lookForRuns_183 (by omega) ?_
                    refine lv_goto (tgt := 193) hx hb dX2_lookForRuns_184 (by decide) ?_
                    refine xr_top (y := nI (lwP pi5 pd5)) (hv9) ?_
                    have hlw := lwP_in (le := pi5) (ct := pd5) (by omega)
                    refine call_V_V (As := [.int (nI (lwP pi5 pd5))]) (rest := []) (wr := [(mK, .inl (cI, 4096, .inl K)), (mL, .inl (cI, 4096, .inl (fun j => nI (ln2 j))))]) ⟨hx, hb, hml, hown, hts⟩ (c_X2_join l dC dI cJ cI m0 mK mT mU mV mL mS th cap n hi ru2 me5 mp5 pd5 ht2 pi5 (lwP pi5 pd5) hlw.1 (by omega) (hle _ (by omega)) (hle _ (by omega))) (cwV 1 hts gX2_lookForRuns_X2_join rfl rfl rfl (by decide +kernel) ⟨Nat.le_of_ble_eq_true rfl, Nat.le_of_ble_eq_true rfl⟩) hP hD hK hN hS hA [0, 3] [1, 2] [0, 1] rfl rfl rfl (by decide) (by decide) (by decide) 0 2 rfl rfl rfl rfl hl.1 rfl (Nat.le_of_ble_eq_true rfl) dX2_lookForRuns_193 (Nat.le_of_ble_eq_true rfl) (Nat.le_of_ble_eq_true rfl) (fun u_193 H locs hw_193 hP hD hK1 hS => ?_)
                    refine W.widen (k := 0) (n := 0) (Nat.le_of_ble_eq_true rfl) (Nat.le_of_ble_eq_true rfl) ?_
                    have hP : va_P (dC, dI) vwCl [(m0, .inr (2, [.int (nI th), .int (nI cap), .ref mK, .ref mT, .ref mU, .ref mV, .int (nI n), .int (nI hi), .int (nI ru2), .ref mL, .int (nI (me5 + 1)), .long (lN (mp5 + (pi5 (lwP pi5 pd5) + pi5 (lwP pi5 pd5 + 1)))), .ref mS, .int (nI (pd5 - 1)), .int (nI ht2)])), (mK, .inl (cI, 4096, .inl K)), (mL, .inl (cI, 4096, .inl (fun j => nI (ln2 j)))), (mS, .inl (cI, 200, .inl (fun j => nI ((jn pi5 pd5 (lwP pi5 pd5)) j))))] H := ct_Psub hP [2, 0, 1, 3] rfl
                    have hD : va_D A [(m0, .inr (2, [.int (nI th), .int (nI cap), .ref mK, .ref mT, .ref mU, .ref mV, .int (nI n), .int (nI hi), .int (nI ru2), .ref mL, .int (nI (me5 + 1)), .long (lN (mp5 + (pi5 (lwP pi5 pd5) + pi5 (lwP pi5 pd5 + 1)))), .ref mS, .int (nI (pd5 - 1)), .int (nI ht2)])), (mK, .inl (cI, 4096, .inl K)), (mL, .inl (cI, 4096, .inl (fun j => nI (ln2 j)))), (mS, .inl (cI, 200, .inl (fun j => nI ((jn pi5 pd5 (lwP pi5 pd5)) j))))] := hD.sub [2, 0, 1, 3] (by decide) rfl
                    refine lv_goto (tgt := 148) hx hb dX2_lookForRuns_196 (by decide) ?_
                    exact ih_w (me5 + 1) (mp5 + (pi5 (lwP pi5 pd5) + pi5 (lwP pi5 pd5 + 1))) (pd5 - 1) (jn pi5 pd5 (lwP pi5 pd5)) (shf st5 (lwP pi5 pd5 + 1) (pd5 - 1)) ((fnl_s (le := pi5) (ct := pd5) (me := me5) (mp := mp5) (by omega)).symm.trans hF) (pC_jn hlw.1 hc5) (by omega) (by omega) _ _ _ hP hD hS (lv_sub hl [0] rfl)
          exact L_w (_ + 1) me2 mp2 pd2 pi2 st2 rfl hc2 (by have := trp_ct htr hc2 (by omega); omega) (Nat.lt_succ_self _) _ _ _ hP hD hS (lv_sub hl [2] rfl)
        · refine lv_aload_n hx hb dX2_lookForRuns_26 rfl (lv_at hl 2 rfl) ?_
          refine lv_iload_n hx hb dX2_lookForRuns_27 rfl (lv_at hl 0 rfl) ?_
          refine call_V_I (As := [.int (nI a)]) (rest := []) (wr := [(mL, .inl (cI, 4096, .inl (fun j => nI (ln2 j)))), (mS, .inl (cI, 200, .inl (fun j => nI (pi2 j))))]) ⟨hx, hb, hml, hown, hts⟩ (c_X2_found l dC dI cJ cI m0 mK mT mU mV mL mS th cap n hi ru2 me2 mp2 pd2 ht2 K a c_15 hn) (cwV 1 hts gX2_lookForRuns_X2_found rfl rfl rfl (by decide +kernel) ⟨Nat.le_of_ble_eq_true rfl, Nat.le_of_ble_eq_true rfl⟩) hP hD hK hN hS hA [0, 1] [2, 3] [0, 1] rfl rfl rfl (by decide) (by decide) (by decide) 0 2 rfl rfl rfl rfl hl.1 rfl (Nat.le_of_ble_eq_true rfl) dX2_lookForRuns_28 (Nat.le_of_ble_eq_true rfl) (Nat.le_of_ble_eq_true rfl) (fun r_28 u_28 H locs hw_28 hP hD hK1 hS => ?_)
          refine W.widen (k := 0) (n := 0) (Nat.le_of_ble_eq_true rfl) (Nat.le_of_ble_eq_true rfl) ?_
          have hP : va_P (dC, dI) vwCl [(m0, .inr (2, [.int (nI th), .int (nI cap), .ref mK, .ref mT, .ref mU, .ref mV, .int (nI n), .int (nI hi), .int (nI ru2), .ref mL, .int (nI me2), .long (lN mp2), .ref mS, .int (nI pd2), .int (nI ht2)])), (mK, .inl (cI, 4096, .inl K)), (mL, .inl (cI, 4096, .inl (fun j => nI (ln2 j)))), (mS, .inl (cI, 200, .inl (fun j => nI (pi2 j))))] H := ct_Psub hP [2, 3, 0, 1] rfl
          have hD : va_D A [(m0, .inr (2, [.int (nI th), .int (nI cap), .ref mK, .ref mT, .ref mU, .ref mV, .int (nI n), .int (nI hi), .int (nI ru2), .ref mL, .int (nI me2), .long (lN mp2), .ref mS, .int (nI pd2), .int (nI ht2)])), (mK, .inl (cI, 4096, .inl K)), (mL, .inl (cI, 4096, .inl (fun j => nI (ln2 j)))), (mS, .inl (cI, 200, .inl (fun j => nI (pi2 j))))] := hD.sub [2, 3, 0, 1] (by decide) rfl
          refine xr_top (y := nI (fnd (kG K) a n)) (hw_28) ?_
          have hf9 := fnd_in (kG K) c_15
          refine lv_istore_n (lv' := [(3, .int (nI (fnd (kG K) a n))), (2, .int (nI a)), (1, .int (nI (lsR n 0))), (0, .ref m0)]) hx hb dX2_lookForRuns_31 rfl hl (by decide) rfl (fun ls hl => ?_)
          refine lv_iload_n hx hb dX2_lookForRuns_32 rfl (lv_at hl 0 rfl) ?_
          refine lv_iload_n hx hb dX2_lookForRuns_33 rfl (lv_at hl 2 rfl) ?_
          refine xr_icmp_ge (tgt := 58) hx hb dX2_lookForRuns_34 (by decide) (by omega) (by omega) (fun c_34 => ?_) (fun c_34 => ?_)
          · have e9 : fnd (kG K) a n = mkL (kG K) a n (lsR n 0) := by unfold mkL; omega
            have hl : lv_has ls 5 [(3, .int (nI (mkL (kG K) a n (lsR n 0)))), (2, .int (nI a)), (1, .int (nI (lsR n 0))), (0, .ref m0)] := by rw [← e9]; exact hl
            have hm9 := mkL_in (κ := kG K) (lsR n 0) c_15
            have hpd := trp_ct htr hc2 (by omega)
            clear e9
            refine lv_aload_n hx hb dX2_lookForRuns_58 rfl (lv_at hl 3 rfl) ?_
            refine va_get (D := (dC, dI)) (ci := 2) (v := .ref mL) (C := RX2) (T := TX2) (N := 15) hx hb hts hin_2 hown hK hP 0 rfl rfl 9 (by decide) k_3 (fun _ h9 => h9) rfl dX2_lookForRuns_59 ?_
            refine lv_aload_n hx hb dX2_lookForRuns_62 rfl (lv_at hl 3 rfl) ?_
            refine va_get (D := (dC, dI)) (ci := 2) (v := .int (nI ru2)) (C := RX2) (T := TX2) (N := 15) hx hb hts hin_2 hown hK hP 0 rfl rfl 8 (by decide) k_4 (fun _ h9 => h9) rfl dX2_lookForRuns_63 ?_
            refine lv_iload_n hx hb dX2_lookForRuns_66 rfl (lv_at hl 0 rfl) ?_
            refine xr_iastN hx hb hK hP hD hS 2 1 rfl rfl (by omega) (by omega) dX2_lookForRuns_67 (fun H locs hP hD hS => ?_)
            have hP : va_P (dC, dI) vwCl [(m0, .inr (2, [.int (nI th), .int (nI cap), .ref mK, .ref mT, .ref mU, .ref mV, .int (nI n), .int (nI hi), .int (nI ru2), .ref mL, .int (nI me2), .long (lN mp2), .ref mS, .int (nI pd2), .int (nI ht2)])), (mK, .inl (cI, 4096, .inl K)), (mL, .inl (cI, 4096, .inl (fun j => nI ((uN_up ln2 ru2 (mkL (kG K) a n (lsR n 0))) j)))), (mS, .inl (cI, 200, .inl (fun j => nI (pi2 j))))] H := hP
            have hD : va_D A [(m0, .inr (2, [.int (nI th), .int (nI cap), .ref mK, .ref mT, .ref mU, .ref mV, .int (nI n), .int (nI hi), .int (nI ru2), .ref mL, .int (nI me2), .long (lN mp2), .ref mS, .int (nI pd2), .int (nI ht2)])), (mK, .inl (cI, 4096, .inl K)), (mL, .inl (cI, 4096, .inl (fun j => nI ((uN_up ln2 ru2 (mkL (kG K) a n (lsR n 0))) j)))), (mS, .inl (cI, 200, .inl (fun j => nI (pi2 j))))] := hD
            refine lv_aload_n hx hb dX2_lookForRuns_68 rfl (lv_at hl 3 rfl) ?_
            refine lv_dup hx hb dX2_lookForRuns_69 rfl ?_
            refine va_get (D := (dC, dI)) (ci := 2) (v := .int (nI ru2)) (C := RX2) (T := TX2) (N := 15) hx hb hts hin_2 hown hK hP 0 rfl rfl 8 (by decide) k_4 (fun _ h9 => h9) rfl dX2_lookForRuns_70 ?_
            refine lv_iconst (v := nI 1) hx hb dX2_lookForRuns_73 (by decide) ?_
            refine xr_iadd hx hb dX2_lookForRuns_74 ?_
            refine va_put (D := (dC, dI)) (ci := 2) (v := .int (nI (ru2 + 1))) (ty := .int) (C := RX2) (T := TX2) (N := 15) hx hb hts hin_2 tyX2 tyX2_ok nmX2 hown hK hP hD hS 0 rfl rfl 8 (by decide) k_4 (fun _ h9 => h9) rfl (by decide +kernel) rfl rfl (Nat.le_of_ble_eq_true rfl) dX2_lookForRuns_75 (fun H locs hP hD hS => ?_)
            have hP : va_P (dC, dI) vwCl [(m0, .inr (2, [.int (nI th), .int (nI cap), .ref mK, .ref mT, .ref mU, .ref mV, .int (nI n), .int (nI hi), .int (nI (ru2 + 1)), .ref mL, .int (nI me2), .long (lN mp2), .ref mS, .int (nI pd2), .int (nI ht2)])), (mK, .inl (cI, 4096, .inl K)), (mL, .inl (cI, 4096, .inl (fun j => nI ((uN_up ln2 ru2 (mkL (kG K) a n (lsR n 0))) j)))), (mS, .inl (cI, 200, .inl (fun j => nI (pi2 j))))] H := hP
            have hD : va_D A [(m0, .inr (2, [.int (nI th), .int (nI cap), .ref mK, .ref mT, .ref mU, .ref mV, .int (nI n), .int (nI hi), .int (nI (ru2 + 1)), .ref mL, .int (nI me2), .long (lN mp2), .ref mS, .int (nI pd2), .int (nI ht2)])), (mK, .inl (cI, 4096, .inl K)), (mL, .inl (cI, 4096, .inl (fun j => nI ((uN_up ln2 ru2 (mkL (kG K) a n (lsR n 0))) j)))), (mS, .inl (cI, 200, .inl (fun j => nI (pi2 j))))] := hD
            refine lv_aload_n hx hb dX2_lookForRuns_78 rfl (lv_at hl 3 rfl) ?_
            refine va_get (D := (dC, dI)) (ci := 2) (v := .ref mS) (C := RX2) (T := TX2) (N := 15) hx hb hts hin_2 hown hK hP 0 rfl rfl 12 (by decide) k_5 (fun _ h9 => h9) rfl dX2_lookForRuns_79 ?_
            refine lv_aload_n hx hb dX2_lookForRuns_82 rfl (lv_at hl 3 rfl) ?_
            refine va_get (D := (dC, dI)) (ci := 2) (v := .int (nI pd2)) (C := RX2) (T := TX2) (N := 15) hx hb hts hin_2 hown hK hP 0 rfl rfl 13 (by decide) k_2 (fun _ h9 => h9) rfl dX2_lookForRuns_83 ?_
            refine lv_iload_n hx hb dX2_lookForRuns_86 rfl (lv_at hl 0 rfl) ?_
            refine xr_iastN hx hb hK hP hD hS 3 1 rfl rfl (by omega) (by omega) dX2_lookForRuns_87 (fun H locs hP hD hS => ?_)
            have hP : va_P (dC, dI) vwCl [(m0, .inr (2, [.int (nI th), .int (nI cap), .ref mK, .ref mT, .ref mU, .ref mV, .int (nI n), .int (nI hi), .int (nI (ru2 + 1)), .ref mL, .int (nI me2), .long (lN mp2), .ref mS, .int (nI pd2), .int (nI ht2)])), (mK, .inl (cI, 4096, .inl K)), (mL, .inl (cI, 4096, .inl (fun j => nI ((uN_up ln2 ru2 (mkL (kG K) a n (lsR n 0))) j)))), (mS, .inl (cI, 200, .inl (fun j => nI ((uN_up pi2 pd2 (mkL (kG K) a n (lsR n 0))) j))))] H := hP
            have hD : va_D A [(m0, .inr (2, [.int (nI th), .int (nI cap), .ref mK, .ref mT, .ref mU, .ref mV, .int (nI n), .int (nI hi), .int (nI (ru2 + 1)), .ref mL, .int (nI me2), .long (lN mp2), .ref mS, .int (nI pd2), .int (nI ht2)])), (mK, .inl (cI, 4096, .inl K)), (mL, .inl (cI, 4096, .inl (fun j => nI ((uN_up ln2 ru2 (mkL (kG K) a n (lsR n 0))) j)))), (mS, .inl (cI, 200, .inl (fun j => nI ((uN_up pi2 pd2 (mkL (kG K) a n (lsR n 0))) j))))] := hD
            refine lv_aload_n hx hb dX2_lookForRuns_88 rfl (lv_at hl 3 rfl) ?_
            refine lv_dup hx hb dX2_lookForRuns_89 rfl ?_
            refine va_get (D := (dC, dI)) (ci := 2) (v := .int (nI pd2)) (C := RX2) (T := TX2) (N := 15) hx hb hts hin_2 hown hK hP 0 rfl rfl 13 (by decide) k_2 (fun _ h9 => h9) rfl dX2_lookForRuns_90 ?_
            refine lv_iconst (v := nI 1) hx hb dX2_lookForRuns_93 (by decide) ?_
            refine xr_iadd hx hb dX2_lookForRuns_94 ?_
            refine va_put (D := (dC, dI)) (ci := 2) (v := .int (nI (pd2 + 1))) (ty := .int) (C := RX2) (T := TX2) (N := 15) hx hb hts hin_2 tyX2 tyX2_ok nmX2 hown hK hP hD hS 0 rfl rfl 13 (by decide) k_2 (fun _ h9 => h9) rfl (by decide +kernel) rfl rfl (Nat.le_of_ble_eq_true rfl) dX2_lookForRuns_95 (fun H locs hP hD hS => ?_)
            have hP : va_P (dC, dI) vwCl [(m0, .inr (2, [.int (nI th), .int (nI cap), .ref mK, .ref mT, .ref mU, .ref mV, .int (nI n), .int (nI hi), .int (nI (ru2 + 1)), .ref mL, .int (nI me2), .long (lN mp2), .ref mS, .int (nI (pd2 + 1)), .int (nI ht2)])), (mK, .inl (cI, 4096, .inl K)), (mL, .inl (cI, 4096, .inl (fun j => nI ((uN_up ln2 ru2 (mkL (kG K) a n (lsR n 0))) j)))), (mS, .inl (cI, 200, .inl (fun j => nI ((uN_up pi2 pd2 (mkL (kG K) a n (lsR n 0))) j))))] H := hP
            have hD : va_D A [(m0, .inr (2, [.int (nI th), .int (nI cap), .ref mK, .ref mT, .ref mU, .ref mV, .int (nI n), .int (nI hi), .int (nI (ru2 + 1)), .ref mL, .int (nI me2), .long (lN mp2), .ref mS, .int (nI (pd2 + 1)), .int (nI ht2)])), (mK, .inl (cI, 4096, .inl K)), (mL, .inl (cI, 4096, .inl (fun j => nI ((uN_up ln2 ru2 (mkL (kG K) a n (lsR n 0))) j)))), (mS, .inl (cI, 200, .inl (fun j => nI ((uN_up pi2 pd2 (mkL (kG K) a n (lsR n 0))) j))))] := hD
            refine lv_aload_n hx hb dX2_lookForRuns_98 rfl (lv_at hl 3 rfl) ?_
            refine lv_aload_n hx hb dX2_lookForRuns_99 rfl (lv_at hl 3 rfl) ?_
            refine va_get (D := (dC, dI)) (ci := 2) (v := .int (nI (pd2 + 1))) (C := RX2) (T := TX2) (N := 15) hx hb hts hin_2 hown hK hP 0 rfl rfl 13 (by decide) k_2 (fun _ h9 => h9) rfl dX2_lookForRuns_100 ?_
            refine lv_aload_n hx hb dX2_lookForRuns_103 rfl (lv_at hl 3 rfl) ?_
            refine va_get (D := (dC, dI)) (ci := 2) (v := .int (nI ht2)) (C := RX2) (T := TX2) (N := 15) hx hb hts hin_2 hown hK hP 0 rfl rfl 14 (by decide) k_6 (fun _ h9 => h9) rfl dX2_lookForRuns_104 ?_
            refine xr_icmp_le (tgt := 117) hx hb dX2_lookForRuns_107 (by decide) (by omega) (by omega) (fun c_107 => ?_) (fun c_107 => ?_)
            · have hv9 : nI ht2 = nI (max ht2 (pd2 + 1)) := congrArg nI (by omega)
              refine lv_aload_n hx hb dX2_lookForRuns_117 rfl (lv_at hl 3 rfl) ?_
              refine va_get (D := (dC, dI)) (ci := 2) (v := .int (nI ht2)) (C := RX2) (T := TX2) (N := 15) hx hb hts hin_2 hown hK hP 0 rfl rfl 14 (by decide) k_6 (fun _ h9 => h9) rfl dX2_lookForRuns_118 ?_
              refine xr_top (y := nI (max ht2 (pd2 + 1))) (hv9) ?_
              refine va_put (D := (dC, dI)) (ci := 2) (v := .int (nI (max ht2 (pd2 + 1)))) (ty := .int) (C := RX2) (T := TX2) (N := 15) hx hb hts hin_2 tyX2 tyX2_ok nmX2 hown hK hP hD hS 0 rfl rfl 14 (by decide) k_6 (fun _ h9 => h9) rfl (by decide +kernel) rfl rfl (Nat.le_of_ble_eq_true rfl) dX2_lookForRuns_121 (fun H locs hP hD hS => ?_)
              have hP : va_P (dC, dI) vwCl [(m0, .inr (2, [.int (nI th), .int (nI cap), .ref mK, .ref mT, .ref mU, .ref mV, .int (nI n), .int (nI hi), .int (nI (ru2 + 1)), .ref mL, .int (nI me2), .long (lN mp2), .ref mS, .int (nI (pd2 + 1)), .int (nI (max ht2 (pd2 + 1)))])), (mK, .inl (cI, 4096, .inl K)), (mL, .inl (cI, 4096, .inl (fun j => nI ((uN_up ln2 ru2 (mkL (kG K) a n (lsR n 0))) j)))), (mS, .inl (cI, 200, .inl (fun j => nI ((uN_up pi2 pd2 (mkL (kG K) a n (lsR n 0))) j))))] H := hP
              have hD : va_D A [(m0, .inr (2, [.int (nI th), .int (nI cap), .ref mK, .ref mT, .ref mU, .ref mV, .int (nI n), .int (nI hi), .int (nI (ru2 + 1)), .ref mL, .int (nI me2), .long (lN mp2), .ref mS, .int (nI (pd2 + 1)), .int (nI (max ht2 (pd2 + 1)))])), (mK, .inl (cI, 4096, .inl K)), (mL, .inl (cI, 4096, .inl (fun j => nI ((uN_up ln2 ru2 (mkL (kG K) a n (lsR n 0))) j)))), (mS, .inl (cI, 200, .inl (fun j => nI ((uN_up pi2 pd2 (mkL (kG K) a n (lsR n 0))) j))))] := hD
              refine lv_iconst (v := nI 1) hx hb dX2_lookForRuns_124 (by decide) ?_
              refine lv_istore (lv' := [(4, .int (nI 1)), (3, .int (nI (mkL (kG K) a n (lsR n 0)))), (2, .int (nI a)), (1, .int (nI (lsR n 0))), (0, .ref m0)]) hx hb dX2_lookForRuns_125 hl (by decide) rfl (fun ls hl => ?_)
              have L_i : ∀ (kq : Nat) (gg me3 mp3 pd3 : Nat) (pi3 st3 : Nat → Nat), (gg = 1 ∨ (gg = 0 ∧ nxP pi3 pd3 = none)) → (brg pd3 pi3 me3 mp3 = brg (pd2 + 1) (uN_up pi2 pd2 (mkL (kG K) a n (lsR n 0))) me2 mp2) → (pC st3 pi3 pd3 (a + mkL (kG K) a n (lsR n 0))) → (tr2 pi3 pd3) → (pd3 ≤ pd2 + 1) → (0 < pd3) → pd3 + gg < kq → ∀ (H : Heap) (locs : List Loc) (ls : Array Slot), va_P (dC, dI) vwCl [(m0, .inr (2, [.int (nI th), .int (nI cap), .ref mK, .ref mT, .ref mU, .ref mV, .int (nI n), .int (nI hi), .int (nI (ru2 + 1)), .ref mL, .int (nI me3), .long (lN mp3), .ref mS, .int (nI pd3), .int (nI (max ht2 (pd2 + 1)))])), (mK, .inl (cI, 4096, .inl K)), (mL, .inl (cI, 4096, .inl (fun j => nI ((uN_up ln2 ru2 (mkL (kG K) a n (lsR n 0))) j)))), (mS, .inl (cI, 200, .inl (fun j => nI (pi3 j))))] H → va_D A [(m0, .inr (2, [.int (nI th), .int (nI cap), .ref mK, .ref mT, .ref mU, .ref mV, .int (nI n), .int (nI hi), .int (nI (ru2 + 1)), .ref mL, .int (nI me3), .long (lN mp3), .ref mS, .int (nI pd3), .int (nI (max ht2 (pd2 + 1)))])), (mK, .inl (cI, 4096, .inl K)), (mL, .inl (cI, 4096, .inl (fun j => nI ((uN_up ln2 ru2 (mkL (kG K) a n (lsR n 0))) j)))), (mS, .inl (cI, 200, .inl (fun j => nI (pi3 j))))] → va_S A s.heap H locs → lv_has ls 5 [(4, .int (nI gg)), (3, .int (nI (mkL (kG K) a n (lsR n 0)))), (2, .int (nI a)), (1, .int (nI (lsR n 0))), (0, .ref m0)] → W p l e rmX2_lookForRuns s m args below meth c H locs 0 0 Q (F0 m 127 ls []) := by
                intro kq
                induction kq with
                | zero =>
                  intro gg me3 mp3 pd3 pi3 st3 hg hB hc3 ht3 hp3 hp4 hm
                  exact absurd hm (Nat.not_lt_zero _)
                | succ kq ih_i =>
                  intro gg me3 mp3 pd3 pi3 st3 hg hB hc3 ht3 hp3 hp4 hm H locs ls hP hD hS hl
                  have hle : ∀ j, j < pd3 → pi3 j ≤ 4096 := fun j hj => by have := (hc3.2.2 j hj).2; omega
                  refine lv_iload hx hb dX2_lookForRuns_127 (lv_at hl 0 rfl) ?_
                  refine xr_if_eq (tgt := 141) hx hb dX2_lookForRuns_129 (by decide) (by omega) (fun c_129 => ?_) (fun c_129 => ?_)
                  · have hg0 : nxP pi3 pd3 = none := hg.elim (fun q => absurd q (by omega)) (fun q => q.2)
                    have htr3 := brg_trp pd3 pi3 me3 mp3 ht3
                    rw [brg_n hg0] at hB htr3
                    refine lv_iload_n hx hb dX2_lookForRuns_141 rfl (lv_at hl 2 rfl) ?_
                    refine lv_iload_n hx hb dX2_lookForRuns_142 rfl (lv_at hl 1 rfl) ?_
                    refine xr_iadd hx hb dX2_lookForRuns_143 ?_
                    refine lv_istore_n (lv' := [(2, .int (nI (a + (mkL (kG K) a n (lsR n 0))))), (4, .int (nI gg)), (3, .int (nI (mkL (kG K) a n (lsR n 0)))), (1, .int (nI (lsR n 0))), (0, .ref m0)]) hx hb dX2_lookForRuns_144 rfl hl (by decide) rfl (fun ls hl => ?_)
                    refine lv_goto (tgt := 10) hx hb dX2_lookForRuns_145 (by decide) ?_
                    exact ih_o (a + mkL (kG K) a n (lsR n 0)) (ru2 + 1) me3 mp3 pd3 (max ht2 (pd2 + 1)) (uN_up ln2 ru2 (mkL (kG K) a n (lsR n 0))) pi3 st3 hm9.2 (by rw [← hT, rsF_s c_15, ← hB]) (fun q => absurd q (by omega)) hc3 (fun q => absurd q (by omega)) htr3 (by omega) (by omega) (by omega) _ _ _ hP hD hS (lv_sub hl [0, 3, 4] rfl)
                  · have hg1 : gg = 1 := by omega
                    refine lv_aload_n hx hb dX2_lookForRuns_132 rfl (lv_at hl 4 rfl) ?_
                    refine call_V_I (As := []) (rest := []) (wr := [(mK, .inl (cI, 4096, .inl K)), (mL, .inl (cI, 4096, .inl (fun j => nI ((uN_up ln2 ru2 (mkL (kG K) a n (lsR n 0))) j))))]) ⟨hx, hb, hml, hown, hts⟩ (c_X2_isBrought l dC dI cJ cI m0 mK mT mU mV mL mS th cap n hi (ru2 + 1) me3 mp3 pd3 (max ht2 (pd2 + 1)) pi3 (by omega) hle) (cwV 0 hts gX2_lookForRuns_X2_isBrought rfl rfl rfl (by decide +kernel) ⟨Nat.le_of_ble_eq_true rfl, Nat.le_of_ble_eq_true rfl⟩) hP hD hK hN hS hA [0, 3] [1, 2] [0, 1] rfl rfl rfl (by decide) (by decide) (by decide) 0 2 rfl rfl rfl rfl hl.1 rfl (Nat.le_of_ble_eq_true rfl) dX2_lookForRuns_133 (Nat.le_of_ble_eq_true rfl) (Nat.le_of_ble_eq_true rfl) (fun r_133 u_133 H locs hw_133 hP hD hK1 hS => ?_)
                    refine W.widen (k := 0) (n := 0) (Nat.le_of_ble_eq_true rfl) (Nat.le_of_ble_eq_true rfl) ?_
                    obtain ⟨me4, mp4, pd4, pi4⟩ := u_133
                    have hP : va_P (dC, dI) vwCl [(m0, .inr (2, [.int (nI th), .int (nI cap), .ref mK, .ref mT, .ref mU, .ref mV, .int (nI n), .int (nI hi), .int (nI (ru2 + 1)), .ref mL, .int (nI me4), .long (lN mp4), .ref mS, .int (nI pd4), .int (nI (max ht2 (pd2 + 1)))])), (mK, .inl (cI, 4096, .inl K)), (mL, .inl (cI, 4096, .inl (fun j => nI ((uN_up ln2 ru2 (mkL (kG K) a n (lsR n 0))) j)))), (mS, .inl (cI, 200, .inl (fun j => nI (pi4 j))))] H := ct_Psub hP [2, 0, 1, 3] rfl
                    have hD : va_D A [(m0, .inr (2, [.int (nI th), .int (nI cap), .ref mK, .ref mT, .ref mU, .ref mV, .int (nI n), .int (nI hi), .int (nI (ru2 + 1)), .ref mL, .int (nI me4), .long (lN mp4), .ref mS, .int (nI pd4), .int (nI (max ht2 (pd2 + 1)))])), (mK, .inl (cI, 4096, .inl K)), (mL, .inl (cI, 4096, .inl (fun j => nI ((uN_up ln2 ru2 (mkL (kG K) a n (lsR n 0))) j)))), (mS, .inl (cI, 200, .inl (fun j => nI (pi4 j))))] := hD.sub [2, 0, 1, 3] (by decide) rfl
                    rcases hw_133 with ⟨hnx, rfl, hu⟩ | ⟨q9, hnx, rfl, hu⟩
                    · obtain ⟨e1, e2, e3, e4⟩ : me4 = me3 ∧ mp4 = mp3 ∧ pd4 = pd3 ∧ pi4 = pi3 := by simpa only [Prod.mk.injEq] using hu
                      have hu4 : nxP pi4 pd4 = none := by rw [e4, e3]; exact hnx
                      have hu1 : brg pd4 pi4 me4 mp4 = brg (pd2 + 1) (uN_up pi2 pd2 (mkL (kG K) a n (lsR n 0))) me2 mp2 := by rw [e1, e2, e3, e4]; exact hB
                      have hu2 : pC st3 pi4 pd4 (a + mkL (kG K) a n (lsR n 0)) := by rw [e3, e4]; exact hc3
                      have hu3 : tr2 pi4 pd4 := by rw [e3, e4]; exact ht3
                      refine lv_istore (lv' := [(4, .int (nI 0)), (3, .int (nI (mkL (kG K) a n (lsR n 0)))), (2, .int (nI a)), (1, .int (nI (lsR n 0))), (0, .ref m0)]) hx hb dX2_lookForRuns_136 hl (by decide) rfl (fun ls hl => ?_)
                      refine lv_goto (tgt := 127) hx hb dX2_lookForRuns_138 (by decide) ?_
                      exact ih_i 0  me4 mp4 pd4 pi4 st3 (Or.inr ⟨rfl, hu4⟩) hu1 hu2 hu3 (by omega) (by omega) (by omega) _ _ _ hP hD hS (lv_sub hl [0, 1, 2, 3, 4] rfl)
                    · obtain ⟨e1, e2, e3, e4⟩ : me4 = me3 + 1 ∧ mp4 = mp3 + (pi3 q9 + pi3 (q9 + 1)) ∧ pd4 = pd3 - 1 ∧ pi4 = jn pi3 pd3 q9 := by simpa only [Prod.mk.injEq] using hu
                      have hq9 := nxP_in hnx
                      have hu1 : brg pd4 pi4 me4 mp4 = brg (pd2 + 1) (uN_up pi2 pd2 (mkL (kG K) a n (lsR n 0))) me2 mp2 := by rw [e1, e2, e3, e4, ← hB, brg_s hnx]
                      have hu2 : pC (shf st3 (q9 + 1) (pd3 - 1)) pi4 pd4 (a + mkL (kG K) a n (lsR n 0)) := by rw [e3, e4]; exact pC_jn hq9.1 hc3
                      have hu3 : tr2 pi4 pd4 := by rw [e3, e4]; exact tr2_jn hq9.1 hq9.2 ht3
                      refine lv_istore (lv' := [(4, .int (nI 1)), (3, .int (nI (mkL (kG K) a n (lsR n 0)))), (2, .int (nI a)), (1, .int (nI (lsR n 0))), (0, .ref m0)]) hx hb dX2_lookForRuns_136 hl (by decide) rfl (fun ls hl => ?_)
                      refine lv_goto (tgt := 127) hx hb dX2_lookForRuns_138 (by decide) ?_
                      exact ih_i 1  me4 mp4 pd4 pi4 (shf st3 (q9 + 1) (pd3 - 1)) (Or.inl rfl) hu1 hu2 hu3 (by omega) (by omega) (by omega) _ _ _ hP hD hS (lv_sub hl [0, 1, 2, 3, 4] rfl)
              exact L_i (_ + 1) 1 me2 mp2 (pd2 + 1) (uN_up pi2 pd2 (mkL (kG K) a n (lsR n 0))) (uN_up st2 pd2 a) (Or.inl rfl) rfl (pC_push hc2 h0 hm9.1) (tr2_push htr) (Nat.le_refl _) (Nat.succ_pos _) (Nat.lt_succ_self _) _ _ _ hP hD hS (lv_sub hl [0, 1, 2, 3, 4] rfl)
            · have hv9 : nI (pd2 + 1) = nI (max ht2 (pd2 + 1)) := congrArg nI (by omega)
              refine lv_aload_n hx hb dX2_lookForRuns_110 rfl (lv_at hl 3 rfl) ?_
              refine va_get (D := (dC, dI)) (ci := 2) (v := .int (nI (pd2 + 1))) (C := RX2) (T := TX2) (N := 15) hx hb hts hin_2 hown hK hP 0 rfl rfl 13 (by decide) k_2 (fun _ h9 => h9) rfl dX2_lookForRuns_111 ?_
              refine lv_goto (tgt := 121) hx hb dX2_lookForRuns_114 (by decide) ?_
              refine xr_top (y := nI (max ht2 (pd2 + 1))) (hv9) ?_
              refine va_put (D := (dC, dI)) (ci := 2) (v := .int (nI (max ht2 (pd2 + 1)))) (ty := .int) (C := RX2) (T := TX2) (N := 15) hx hb hts hin_2 tyX2 tyX2_ok nmX2 hown hK hP hD hS 0 rfl rfl 14 (by decide) k_6 (fun _ h9 => h9) rfl (by decide +kernel) rfl rfl (Nat.le_of_ble_eq_true rfl) dX2_lookForRuns_121 (fun H locs hP hD hS => ?_)
              have hP : va_P (dC, dI) vwCl [(m0, .inr (2, [.int (nI th), .int (nI cap), .ref mK, .ref mT, .ref mU, .ref mV, .int (nI n), .int (nI hi), .int (nI (ru2 + 1)), .ref mL, .int (nI me2), .long (lN mp2), .ref mS, .int (nI (pd2 + 1)), .int (nI (max ht2 (pd2 + 1)))])), (mK, .inl (cI, 4096, .inl K)), (mL, .inl (cI, 4096, .inl (fun j => nI ((uN_up ln2 ru2 (mkL (kG K) a n (lsR n 0))) j)))), (mS, .inl (cI, 200, .inl (fun j => nI ((uN_up pi2 pd2 (mkL (kG K) a n (lsR n 0))) j))))] H := hP
              have hD : va_D A [(m0, .inr (2, [.int (nI th), .int (nI cap), .ref mK, .ref mT, .ref mU, .ref mV, .int (nI n), .int (nI hi), .int (nI (ru2 + 1)), .ref mL, .int (nI me2), .long (lN mp2), .ref mS, .int (nI (pd2 + 1)), .int (nI (max ht2 (pd2 + 1)))])), (mK, .inl (cI, 4096, .inl K)), (mL, .inl (cI, 4096, .inl (fun j => nI ((uN_up ln2 ru2 (mkL (kG K) a n (lsR n 0))) j)))), (mS, .inl (cI, 200, .inl (fun j => nI ((uN_up pi2 pd2 (mkL (kG K) a n (lsR n 0))) j))))] := hD
              refine lv_iconst (v := nI 1) hx hb dX2_lookForRuns_124 (by decide) ?_
              refine lv_istore (lv' := [(4, .int (nI 1)), (3, .int (nI (mkL (kG K) a n (lsR n 0)))), (2, .int (nI a)), (1, .int (nI (lsR n 0))), (0, .ref m0)]) hx hb dX2_lookForRuns_125 hl (by decide) rfl (fun ls hl => ?_)
              have L_i : ∀ (kq : Nat) (gg me3 mp3 pd3 : Nat) (pi3 st3 : Nat → Nat), (gg = 1 ∨ (gg = 0 ∧ nxP pi3 pd3 = none)) → (brg pd3 pi3 me3 mp3 = brg (pd2 + 1) (uN_up pi2 pd2 (mkL (kG K) a n (lsR n 0))) me2 mp2) → (pC st3 pi3 pd3 (a + mkL (kG K) a n (lsR n 0))) → (tr2 pi3 pd3) → (pd3 ≤ pd2 + 1) → (0 < pd3) → pd3 + gg < kq → ∀ (H : Heap) (locs : List Loc) (ls : Array Slot), va_P (dC, dI) vwCl [(m0, .inr (2, [.int (nI th), .int (nI cap), .ref mK, .ref mT, .ref mU, .ref mV, .int (nI n), .int (nI hi), .int (nI (ru2 + 1)), .ref mL, .int (nI me3), .long (lN mp3), .ref mS, .int (nI pd3), .int (nI (max ht2 (pd2 + 1)))])), (mK, .inl (cI, 4096, .inl K)), (mL, .inl (cI, 4096, .inl (fun j => nI ((uN_up ln2 ru2 (mkL (kG K) a n (lsR n 0))) j)))), (mS, .inl (cI, 200, .inl (fun j => nI (pi3 j))))] H → va_D A [(m0, .inr (2, [.int (nI th), .int (nI cap), .ref mK, .ref mT, .ref mU, .ref mV, .int (nI n), .int (nI hi), .int (nI (ru2 + 1)), .ref mL, .int (nI me3), .long (lN mp3), .ref mS, .int (nI pd3), .int (nI (max ht2 (pd2 + 1)))])), (mK, .inl (cI, 4096, .inl K)), (mL, .inl (cI, 4096, .inl (fun j => nI ((uN_up ln2 ru2 (mkL (kG K) a n (lsR n 0))) j)))), (mS, .inl (cI, 200, .inl (fun j => nI (pi3 j))))] → va_S A s.heap H locs → lv_has ls 5 [(4, .int (nI gg)), (3, .int (nI (mkL (kG K) a n (lsR n 0)))), (2, .int (nI a)), (1, .int (nI (lsR n 0))), (0, .ref m0)] → W p l e rmX2_lookForRuns s m args below meth c H locs 0 0 Q (F0 m 127 ls []) := by
                intro kq
                induction kq with
                | zero =>
                  intro gg me3 mp3 pd3 pi3 st3 hg hB hc3 ht3 hp3 hp4 hm
                  exact absurd hm (Nat.not_lt_zero _)
                | succ kq ih_i =>
                  intro gg me3 mp3 pd3 pi3 st3 hg hB hc3 ht3 hp3 hp4 hm H locs ls hP hD hS hl
                  have hle : ∀ j, j < pd3 → pi3 j ≤ 4096 := fun j hj => by have := (hc3.2.2 j hj).2; omega
                  refine lv_iload hx hb dX2_lookForRuns_127 (lv_at hl 0 rfl) ?_
                  refine xr_if_eq (tgt := 141) hx hb dX2_lookForRuns_129 (by decide) (by omega) (fun c_129 => ?_) (fun c_129 => ?_)
                  · have hg0 : nxP pi3 pd3 = none := hg.elim (fun q => absurd q (by omega)) (fun q => q.2)
                    have htr3 := brg_trp pd3 pi3 me3 mp3 ht3
                    rw [brg_n hg0] at hB htr3
                    refine lv_iload_n hx hb dX2_lookForRuns_141 rfl (lv_at hl 2 rfl) ?_
                    refine lv_iload_n hx hb dX2_lookForRuns_142 rfl (lv_at hl 1 rfl) ?_
                    refine xr_iadd hx hb dX2_lookForRuns_143 ?_
                    refine lv_istore_n (lv' := [(2, .int (nI (a + (mkL (kG K) a n (lsR n 0))))), (4, .int (nI gg)), (3, .int (nI (mkL (kG K) a n (lsR n 0)))), (1, .int (nI (lsR n 0))), (0, .ref m0)]) hx hb dX2_lookForRuns_144 rfl hl (by decide) rfl (fun ls hl => ?_)
                    refine lv_goto (tgt := 10) hx hb dX2_lookForRuns_145 (by decide) ?_
                    exact ih_o (a + mkL (kG K) a n (lsR n 0)) (ru2 + 1) me3 mp3 pd3 (max ht2 (pd2 + 1)) (uN_up ln2 ru2 (mkL (kG K) a n (lsR n 0))) pi3 st3 hm9.2 (by rw [← hT, rsF_s c_15, ← hB]) (fun q => absurd q (by omega)) hc3 (fun q => absurd q (by omega)) htr3 (by omega) (by omega) (by omega) _ _ _ hP hD hS (lv_sub hl [0, 3, 4] rfl)
                  · have hg1 : gg = 1 := by omega
                    refine lv_aload_n hx hb dX2_lookForRuns_132 rfl (lv_at hl 4 rfl) ?_
                    refine call_V_I (As := []) (rest := []) (wr := [(mK, .inl (cI, 4096, .inl K)), (mL, .inl (cI, 4096, .inl (fun j => nI ((uN_up ln2 ru2 (mkL (kG K) a n (lsR n 0))) j))))]) ⟨hx, hb, hml, hown, hts⟩ (c_X2_isBrought l dC dI cJ cI m0 mK mT mU mV mL mS th cap n hi (ru2 + 1) me3 mp3 pd3 (max ht2 (pd2 + 1)) pi3 (by omega) hle) (cwV 0 hts gX2_lookForRuns_X2_isBrought rfl rfl rfl (by decide +kernel) ⟨Nat.le_of_ble_eq_true rfl, Nat.le_of_ble_eq_true rfl⟩) hP hD hK hN hS hA [0, 3] [1, 2] [0, 1] rfl rfl rfl (by decide) (by decide) (by decide) 0 2 rfl rfl rfl rfl hl.1 rfl (Nat.le_of_ble_eq_true rfl) dX2_lookForRuns_133 (Nat.le_of_ble_eq_true rfl) (Nat.le_of_ble_eq_true rfl) (fun r_133 u_133 H locs hw_133 hP hD hK1 hS => ?_)
                    refine W.widen (k := 0) (n := 0) (Nat.le_of_ble_eq_true rfl) (Nat.le_of_ble_eq_true rfl) ?_
                    obtain ⟨me4, mp4, pd4, pi4⟩ := u_133
                    have hP : va_P (dC, dI) vwCl [(m0, .inr (2, [.int (nI th), .int (nI cap), .ref mK, .ref mT, .ref mU, .ref mV, .int (nI n), .int (nI hi), .int (nI (ru2 + 1)), .ref mL, .int (nI me4), .long (lN mp4), .ref mS, .int (nI pd4), .int (nI (max ht2 (pd2 + 1)))])), (mK, .inl (cI, 4096, .inl K)), (mL, .inl (cI, 4096, .inl (fun j => nI ((uN_up ln2 ru2 (mkL (kG K) a n (lsR n 0))) j)))), (mS, .inl (cI, 200, .inl (fun j => nI (pi4 j))))] H := ct_Psub hP [2, 0, 1, 3] rfl
                    have hD : va_D A [(m0, .inr (2, [.int (nI th), .int (nI cap), .ref mK, .ref mT, .ref mU, .ref mV, .int (nI n), .int (nI hi), .int (nI (ru2 + 1)), .ref mL, .int (nI me4), .long (lN mp4), .ref mS, .int (nI pd4), .int (nI (max ht2 (pd2 + 1)))])), (mK, .inl (cI, 4096, .inl K)), (mL, .inl (cI, 4096, .inl (fun j => nI ((uN_up ln2 ru2 (mkL (kG K) a n (lsR n 0))) j)))), (mS, .inl (cI, 200, .inl (fun j => nI (pi4 j))))] := hD.sub [2, 0, 1, 3] (by decide) rfl
                    rcases hw_133 with ⟨hnx, rfl, hu⟩ | ⟨q9, hnx, rfl, hu⟩
                    · obtain ⟨e1, e2, e3, e4⟩ : me4 = me3 ∧ mp4 = mp3 ∧ pd4 = pd3 ∧ pi4 = pi3 := by simpa only [Prod.mk.injEq] using hu
                      have hu4 : nxP pi4 pd4 = none := by rw [e4, e3]; exact hnx
                      have hu1 : brg pd4 pi4 me4 mp4 = brg (pd2 + 1) (uN_up pi2 pd2 (mkL (kG K) a n (lsR n 0))) me2 mp2 := by rw [e1, e2, e3, e4]; exact hB
                      have hu2 : pC st3 pi4 pd4 (a + mkL (kG K) a n (lsR n 0)) := by rw [e3, e4]; exact hc3
                      have hu3 : tr2 pi4 pd4 := by rw [e3, e4]; exact ht3
                      refine lv_istore (lv' := [(4, .int (nI 0)), (3, .int (nI (mkL (kG K) a n (lsR n 0)))), (2, .int (nI a)), (1, .int (nI (lsR n 0))), (0, .ref m0)]) hx hb dX2_lookForRuns_136 hl (by decide) rfl (fun ls hl => ?_)
                      refine lv_goto (tgt := 127) hx hb dX2_lookForRuns_138 (by decide) ?_
                      exact ih_i 0  me4 mp4 pd4 pi4 st3 (Or.inr ⟨rfl, hu4⟩) hu1 hu2 hu3 (by omega) (by omega) (by omega) _ _ _ hP hD hS (lv_sub hl [0, 1, 2, 3, 4] rfl)
                    · obtain ⟨e1, e2, e3, e4⟩ : me4 = me3 + 1 ∧ mp4 = mp3 + (pi3 q9 + pi3 (q9 + 1)) ∧ pd4 = pd3 - 1 ∧ pi4 = jn pi3 pd3 q9 := by simpa only [Prod.mk.injEq] using hu
                      have hq9 := nxP_in hnx
                      have hu1 : brg pd4 pi4 me4 mp4 = brg (pd2 + 1) (uN_up pi2 pd2 (mkL (kG K) a n (lsR n 0))) me2 mp2 := by rw [e1, e2, e3, e4, ← hB, brg_s hnx]
                      have hu2 : pC (shf st3 (q9 + 1) (pd3 - 1)) pi4 pd4 (a + mkL (kG K) a n (lsR n 0)) := by rw [e3, e4]; exact pC_jn hq9.1 hc3
                      have hu3 : tr2 pi4 pd4 := by rw [e3, e4]; exact tr2_jn hq9.1 hq9.2 ht3
                      refine lv_istore (lv' := [(4, .int (nI 1)), (3, .int (nI (mkL (kG K) a n (lsR n 0)))), (2, .int (nI a)), (1, .int (nI (lsR n 0))), (0, .ref m0)]) hx hb dX2_lookForRuns_136 hl (by decide) rfl (fun ls hl => ?_)
                      refine lv_goto (tgt := 127) hx hb dX2_lookForRuns_138 (by decide) ?_
                      exact ih_i 1  me4 mp4 pd4 pi4 (shf st3 (q9 + 1) (pd3 - 1)) (Or.inl rfl) hu1 hu2 hu3 (by omega) (by omega) (by omega) _ _ _ hP hD hS (lv_sub hl [0, 1, 2, 3, 4] rfl)
              exact L_i (_ + 1) 1 me2 mp2 (pd2 + 1) (uN_up pi2 pd2 (mkL (kG K) a n (lsR n 0))) (uN_up st2 pd2 a) (Or.inl rfl) rfl (pC_push hc2 h0 hm9.1) (tr2_push htr) (Nat.le_refl _) (Nat.succ_pos _) (Nat.lt_succ_self _) _ _ _ hP hD hS (lv_sub hl [0, 1, 2, 3, 4] rfl)
          · refine lv_aload_n hx hb dX2_lookForRuns_37 rfl (lv_at hl 3 rfl) ?_
            refine va_get (D := (dC, dI)) (ci := 2) (v := .int (nI n)) (C := RX2) (T := TX2) (N := 15) hx hb hts hin_2 hown hK hP 0 rfl rfl 6 (by decide) k_1 (fun _ h9 => h9) rfl dX2_lookForRuns_38 ?_
            refine lv_iload_n hx hb dX2_lookForRuns_41 rfl (lv_at hl 1 rfl) ?_
            refine xr_isub hx hb dX2_lookForRuns_42 (by omega) ?_
            refine lv_iload_n hx hb dX2_lookForRuns_43 rfl (lv_at hl 2 rfl) ?_
            refine xr_icmp_ge (tgt := 56) hx hb dX2_lookForRuns_44 (by decide) (by omega) (by omega) (fun c_44 => ?_) (fun c_44 => ?_)
            · refine lv_iload_n hx hb dX2_lookForRuns_56 rfl (lv_at hl 2 rfl) ?_
              refine lv_istore_n (lv' := [(3, .int (nI (lsR n 0))), (2, .int (nI a)), (1, .int (nI (lsR n 0))), (0, .ref m0)]) hx hb dX2_lookForRuns_57 rfl hl (by decide) rfl (fun ls hl => ?_)
              have e9 : lsR n 0 = mkL (kG K) a n (lsR n 0) := by unfold mkL; omega
              have hl : lv_has ls 5 [(3, .int (nI (mkL (kG K) a n (lsR n 0)))), (2, .int (nI a)), (1, .int (nI (lsR n 0))), (0, .ref m0)] := by rw [← e9]; exact hl
              have hm9 := mkL_in (κ := kG K) (lsR n 0) c_15
              have hpd := trp_ct htr hc2 (by omega)
              clear e9
              refine lv_aload_n hx hb dX2_lookForRuns_58 rfl (lv_at hl 3 rfl) ?_
              refine va_get (D := (dC, dI)) (ci := 2) (v := .ref mL) (C := RX2) (T := TX2) (N := 15) hx hb hts hin_2 hown hK hP 0 rfl rfl 9 (by decide) k_3 (fun _ h9 => h9) rfl dX2_lookForRuns_59 ?_
              refine lv_aload_n hx hb dX2_lookForRuns_62 rfl (lv_at hl 3 rfl) ?_
              refine va_get (D := (dC, dI)) (ci := 2) (v := .int (nI ru2)) (C := RX2) (T := TX2) (N := 15) hx hb hts hin_2 hown hK hP 0 rfl rfl 8 (by decide) k_4 (fun _ h9 => h9) rfl dX2_lookForRuns_63 ?_
              refine lv_iload_n hx hb dX2_lookForRuns_66 rfl (lv_at hl 0 rfl) ?_
              refine xr_iastN hx hb hK hP hD hS 2 1 rfl rfl (by omega) (by omega) dX2_lookForRuns_67 (fun H locs hP hD hS => ?_)
              have hP : va_P (dC, dI) vwCl [(m0, .inr (2, [.int (nI th), .int (nI cap), .ref mK, .ref mT, .ref mU, .ref mV, .int (nI n), .int (nI hi), .int (nI ru2), .ref mL, .int (nI me2), .long (lN mp2), .ref mS, .int (nI pd2), .int (nI ht2)])), (mK, .inl (cI, 4096, .inl K)), (mL, .inl (cI, 4096, .inl (fun j => nI ((uN_up ln2 ru2 (mkL (kG K) a n (lsR n 0))) j)))), (mS, .inl (cI, 200, .inl (fun j => nI (pi2 j))))] H := hP
              have hD : va_D A [(m0, .inr (2, [.int (nI th), .int (nI cap), .ref mK, .ref mT, .ref mU, .ref mV, .int (nI n), .int (nI hi), .int (nI ru2), .ref mL, .int (nI me2), .long (lN mp2), .ref mS, .int (nI pd2), .int (nI ht2)])), (mK, .inl (cI, 4096, .inl K)), (mL, .inl (cI, 4096, .inl (fun j => nI ((uN_up ln2 ru2 (mkL (kG K) a n (lsR n 0))) j)))), (mS, .inl (cI, 200, .inl (fun j => nI (pi2 j))))] := hD
              refine lv_aload_n hx hb dX2_lookForRuns_68 rfl (lv_at hl 3 rfl) ?_
              refine lv_dup hx hb dX2_lookForRuns_69 rfl ?_
              refine va_get (D := (dC, dI)) (ci := 2) (v := .int (nI ru2)) (C := RX2) (T := TX2) (N := 15) hx hb hts hin_2 hown hK hP 0 rfl rfl 8 (by decide) k_4 (fun _ h9 => h9) rfl dX2_lookForRuns_70 ?_
              refine lv_iconst (v := nI 1) hx hb dX2_lookForRuns_73 (by decide) ?_
              refine xr_iadd hx hb dX2_lookForRuns_74 ?_
              refine va_put (D := (dC, dI)) (ci := 2) (v := .int (nI (ru2 + 1))) (ty := .int) (C := RX2) (T := TX2) (N := 15) hx hb hts hin_2 tyX2 tyX2_ok nmX2 hown hK hP hD hS 0 rfl rfl 8 (by decide) k_4 (fun _ h9 => h9) rfl (by decide +kernel) rfl rfl (Nat.le_of_ble_eq_true rfl) dX2_lookForRuns_75 (fun H locs hP hD hS => ?_)
              have hP : va_P (dC, dI) vwCl [(m0, .inr (2, [.int (nI th), .int (nI cap), .ref mK, .ref mT, .ref mU, .ref mV, .int (nI n), .int (nI hi), .int (nI (ru2 + 1)), .ref mL, .int (nI me2), .long (lN mp2), .ref mS, .int (nI pd2), .int (nI ht2)])), (mK, .inl (cI, 4096, .inl K)), (mL, .inl (cI, 4096, .inl (fun j => nI ((uN_up ln2 ru2 (mkL (kG K) a n (lsR n 0))) j)))), (mS, .inl (cI, 200, .inl (fun j => nI (pi2 j))))] H := hP
              have hD : va_D A [(m0, .inr (2, [.int (nI th), .int (nI cap), .ref mK, .ref mT, .ref mU, .ref mV, .int (nI n), .int (nI hi), .int (nI (ru2 + 1)), .ref mL, .int (nI me2), .long (lN mp2), .ref mS, .int (nI pd2), .int (nI ht2)])), (mK, .inl (cI, 4096, .inl K)), (mL, .inl (cI, 4096, .inl (fun j => nI ((uN_up ln2 ru2 (mkL (kG K) a n (lsR n 0))) j)))), (mS, .inl (cI, 200, .inl (fun j => nI (pi2 j))))] := hD
              refine lv_aload_n hx hb dX2_lookForRuns_78 rfl (lv_at hl 3 rfl) ?_
              refine va_get (D := (dC, dI)) (ci := 2) (v := .ref mS) (C := RX2) (T := TX2) (N := 15) hx hb hts hin_2 hown hK hP 0 rfl rfl 12 (by decide) k_5 (fun _ h9 => h9) rfl dX2_lookForRuns_79 ?_
              refine lv_aload_n hx hb dX2_lookForRuns_82 rfl (lv_at hl 3 rfl) ?_
              refine va_get (D := (dC, dI)) (ci := 2) (v := .int (nI pd2)) (C := RX2) (T := TX2) (N := 15) hx hb hts hin_2 hown hK hP 0 rfl rfl 13 (by decide) k_2 (fun _ h9 => h9) rfl dX2_lookForRuns_83 ?_
              refine lv_iload_n hx hb dX2_lookForRuns_86 rfl (lv_at hl 0 rfl) ?_
              refine xr_iastN hx hb hK hP hD hS 3 1 rfl rfl (by omega) (by omega) dX2_lookForRuns_87 (fun H locs hP hD hS => ?_)
              have hP : va_P (dC, dI) vwCl [(m0, .inr (2, [.int (nI th), .int (nI cap), .ref mK, .ref mT, .ref mU, .ref mV, .int (nI n), .int (nI hi), .int (nI (ru2 + 1)), .ref mL, .int (nI me2), .long (lN mp2), .ref mS, .int (nI pd2), .int (nI ht2)])), (mK, .inl (cI, 4096, .inl K)), (mL, .inl (cI, 4096, .inl (fun j => nI ((uN_up ln2 ru2 (mkL (kG K) a n (lsR n 0))) j)))), (mS, .inl (cI, 200, .inl (fun j => nI ((uN_up pi2 pd2 (mkL (kG K) a n (lsR n 0))) j))))] H := hP
              have hD : va_D A [(m0, .inr (2, [.int (nI th), .int (nI cap), .ref mK, .ref mT, .ref mU, .ref mV, .int (nI n), .int (nI hi), .int (nI (ru2 + 1)), .ref mL, .int (nI me2), .long (lN mp2), .ref mS, .int (nI pd2), .int (nI ht2)])), (mK, .inl (cI, 4096, .inl K)), (mL, .inl (cI, 4096, .inl (fun j => nI ((uN_up ln2 ru2 (mkL (kG K) a n (lsR n 0))) j)))), (mS, .inl (cI, 200, .inl (fun j => nI ((uN_up pi2 pd2 (mkL (kG K) a n (lsR n 0))) j))))] := hD
              refine lv_aload_n hx hb dX2_lookForRuns_88 rfl (lv_at hl 3 rfl) ?_
              refine lv_dup hx hb dX2_lookForRuns_89 rfl ?_
              refine va_get (D := (dC, dI)) (ci := 2) (v := .int (nI pd2)) (C := RX2) (T := TX2) (N := 15) hx hb hts hin_2 hown hK hP 0 rfl rfl 13 (by decide) k_2 (fun _ h9 => h9) rfl dX2_lookForRuns_90 ?_
              refine lv_iconst (v := nI 1) hx hb dX2_lookForRuns_93 (by decide) ?_
              refine xr_iadd hx hb dX2_lookForRuns_94 ?_
              refine va_put (D := (dC, dI)) (ci := 2) (v := .int (nI (pd2 + 1))) (ty := .int) (C := RX2) (T := TX2) (N := 15) hx hb hts hin_2 tyX2 tyX2_ok nmX2 hown hK hP hD hS 0 rfl rfl 13 (by decide) k_2 (fun _ h9 => h9) rfl (by decide +kernel) rfl rfl (Nat.le_of_ble_eq_true rfl) dX2_lookForRuns_95 (fun H locs hP hD hS => ?_)
              have hP : va_P (dC, dI) vwCl [(m0, .inr (2, [.int (nI th), .int (nI cap), .ref mK, .ref mT, .ref mU, .ref mV, .int (nI n), .int (nI hi), .int (nI (ru2 + 1)), .ref mL, .int (nI me2), .long (lN mp2), .ref mS, .int (nI (pd2 + 1)), .int (nI ht2)])), (mK, .inl (cI, 4096, .inl K)), (mL, .inl (cI, 4096, .inl (fun j => nI ((uN_up ln2 ru2 (mkL (kG K) a n (lsR n 0))) j)))), (mS, .inl (cI, 200, .inl (fun j => nI ((uN_up pi2 pd2 (mkL (kG K) a n (lsR n 0))) j))))] H := hP
              have hD : va_D A [(m0, .inr (2, [.int (nI th), .int (nI cap), .ref mK, .ref mT, .ref mU, .ref mV, .int (nI n), .int (nI hi), .int (nI (ru2 + 1)), .ref mL, .int (nI me2), .long (lN mp2), .ref mS, .int (nI (pd2 + 1)), .int (nI ht2)])), (mK, .inl (cI, 4096, .inl K)), (mL, .inl (cI, 4096, .inl (fun j => nI ((uN_up ln2 ru2 (mkL (kG K) a n (lsR n 0))) j)))), (mS, .inl (cI, 200, .inl (fun j => nI ((uN_up pi2 pd2 (mkL (kG K) a n (lsR n 0))) j))))] := hD
              refine lv_aload_n hx hb dX2_lookForRuns_98 rfl (lv_at hl 3 rfl) ?_
              refine lv_aload_n hx hb dX2_lookForRuns_99 rfl (lv_at hl 3 rfl) ?_
              refine va_get (D := (dC, dI)) (ci := 2) (v := .int (nI (pd2 + 1))) (C := RX2) (T := TX2) (N := 15) hx hb hts hin_2 hown hK hP 0 rfl rfl 13 (by decide) k_2 (fun _ h9 => h9) rfl dX2_lookForRuns_100 ?_
              refine lv_aload_n hx hb dX2_lookForRuns_103 rfl (lv_at hl 3 rfl) ?_
              refine va_get (D := (dC, dI)) (ci := 2) (v := .int (nI ht2)) (C := RX2) (T := TX2) (N := 15) hx hb hts hin_2 hown hK hP 0 rfl rfl 14 (by decide) k_6 (fun _ h9 => h9) rfl dX2_lookForRuns_104 ?_
              refine xr_icmp_le (tgt := 117) hx hb dX2_lookForRuns_107 (by decide) (by omega) (by omega) (fun c_107 => ?_) (fun c_107 => ?_)
              · have hv9 : nI ht2 = nI (max ht2 (pd2 + 1)) := congrArg nI (by omega)
                refine lv_aload_n hx hb dX2_lookForRuns_117 rfl (lv_at hl 3 rfl) ?_
                refine va_get (D := (dC, dI)) (ci := 2) (v := .int (nI ht2)) (C := RX2) (T := TX2) (N := 15) hx hb hts hin_2 hown hK hP 0 rfl rfl 14 (by decide) k_6 (fun _ h9 => h9) rfl dX2_lookForRuns_118 ?_
                refine xr_top (y := nI (max ht2 (pd2 + 1))) (hv9) ?_
                refine va_put (D := (dC, dI)) (ci := 2) (v := .int (nI (max ht2 (pd2 + 1)))) (ty := .int) (C := RX2) (T := TX2) (N := 15) hx hb hts hin_2 tyX2 tyX2_ok nmX2 hown hK hP hD hS 0 rfl rfl 14 (by decide) k_6 (fun _ h9 => h9) rfl (by decide +kernel) rfl rfl (Nat.le_of_ble_eq_true rfl) dX2_lookForRuns_121 (fun H locs hP hD hS => ?_)
                have hP : va_P (dC, dI) vwCl [(m0, .inr (2, [.int (nI th), .int (nI cap), .ref mK, .ref mT, .ref mU, .ref mV, .int (nI n), .int (nI hi), .int (nI (ru2 + 1)), .ref mL, .int (nI me2), .long (lN mp2), .ref mS, .int (nI (pd2 + 1)), .int (nI (max ht2 (pd2 + 1)))])), (mK, .inl (cI, 4096, .inl K)), (mL, .inl (cI, 4096, .inl (fun j => nI ((uN_up ln2 ru2 (mkL (kG K) a n (lsR n 0))) j)))), (mS, .inl (cI, 200, .inl (fun j => nI ((uN_up pi2 pd2 (mkL (kG K) a n (lsR n 0))) j))))] H := hP
                have hD : va_D A [(m0, .inr (2, [.int (nI th), .int (nI cap), .ref mK, .ref mT, .ref mU, .ref mV, .int (nI n), .int (nI hi), .int (nI (ru2 + 1)), .ref mL, .int (nI me2), .long (lN mp2), .ref mS, .int (nI (pd2 + 1)), .int (nI (max ht2 (pd2 + 1)))])), (mK, .inl (cI, 4096, .inl K)), (mL, .inl (cI, 4096, .inl (fun j => nI ((uN_up ln2 ru2 (mkL (kG K) a n (lsR n 0))) j)))), (mS, .inl (cI, 200, .inl (fun j => nI ((uN_up pi2 pd2 (mkL (kG K) a n (lsR n 0))) j))))] := hD
                refine lv_iconst (v := nI 1) hx hb dX2_lookForRuns_124 (by decide) ?_
                refine lv_istore (lv' := [(4, .int (nI 1)), (3, .int (nI (mkL (kG K) a n (lsR n 0)))), (2, .int (nI a)), (1, .int (nI (lsR n 0))), (0, .ref m0)]) hx hb dX2_lookForRuns_125 hl (by decide) rfl (fun ls hl => ?_)
                have L_i : ∀ (kq : Nat) (gg me3 mp3 pd3 : Nat) (pi3 st3 : Nat → Nat), (gg = 1 ∨ (gg = 0 ∧ nxP pi3 pd3 = none)) → (brg pd3 pi3 me3 mp3 = brg (pd2 + 1) (uN_up pi2 pd2 (mkL (kG K) a n (lsR n 0))) me2 mp2) → (pC st3 pi3 pd3 (a + mkL (kG K) a n (lsR n 0))) → (tr2 pi3 pd3) → (pd3 ≤ pd2 + 1) → (0 < pd3) → pd3 + gg < kq → ∀ (H : Heap) (locs : List Loc) (ls : Array Slot), va_P (dC, dI) vwCl [(m0, .inr (2, [.int (nI th), .int (nI cap), .ref mK, .ref mT, .ref mU, .ref mV, .int (nI n), .int (nI hi), .int (nI (ru2 + 1)), .ref mL, .int (nI me3), .long (lN mp3), .ref mS, .int (nI pd3), .int (nI (max ht2 (pd2 + 1)))])), (mK, .inl (cI, 4096, .inl K)), (mL, .inl (cI, 4096, .inl (fun j => nI ((uN_up ln2 ru2 (mkL (kG K) a n (lsR n 0))) j)))), (mS, .inl (cI, 200, .inl (fun j => nI (pi3 j))))] H → va_D A [(m0, .inr (2, [.int (nI th), .int (nI cap), .ref mK, .ref mT, .ref mU, .ref mV, .int (nI n), .int (nI hi), .int (nI (ru2 + 1)), .ref mL, .int (nI me3), .long (lN mp3), .ref mS, .int (nI pd3), .int (nI (max ht2 (pd2 + 1)))])), (mK, .inl (cI, 4096, .inl K)), (mL, .inl (cI, 4096, .inl (fun j => nI ((uN_up ln2 ru2 (mkL (kG K) a n (lsR n 0))) j)))), (mS, .inl (cI, 200, .inl (fun j => nI (pi3 j))))] → va_S A s.heap H locs → lv_has ls 5 [(4, .int (nI gg)), (3, .int (nI (mkL (kG K) a n (lsR n 0)))), (2, .int (nI a)), (1, .int (nI (lsR n 0))), (0, .ref m0)] → W p l e rmX2_lookForRuns s m args below meth c H locs 0 0 Q (F0 m 127 ls []) := by
                  intro kq
                  induction kq with
                  | zero =>
                    intro gg me3 mp3 pd3 pi3 st3 hg hB hc3 ht3 hp3 hp4 hm
                    exact absurd hm (Nat.not_lt_zero _)
                  | succ kq ih_i =>
                    intro gg me3 mp3 pd3 pi3 st3 hg hB hc3 ht3 hp3 hp4 hm H locs ls hP hD hS hl
                    have hle : ∀ j, j < pd3 → pi3 j ≤ 4096 := fun j hj => by have := (hc3.2.2 j hj).2; omega
                    refine lv_iload hx hb dX2_lookForRuns_127 (lv_at hl 0 rfl) ?_
                    refine xr_if_eq (tgt := 141) hx hb dX2_lookForRuns_129 (by decide) (by omega) (fun c_129 => ?_) (fun c_129 => ?_)
                    · have hg0 : nxP pi3 pd3 = none := hg.elim (fun q => absurd q (by omega)) (fun q => q.2)
                      have htr3 := brg_trp pd3 pi3 me3 mp3 ht3
                      rw [brg_n hg0] at hB htr3
                      refine lv_iload_n hx hb dX2_lookForRuns_141 rfl (lv_at hl 2 rfl) ?_
                      refine lv_iload_n hx hb dX2_lookForRuns_142 rfl (lv_at hl 1 rfl) ?_
                      refine xr_iadd hx hb dX2_lookForRuns_143 ?_
                      refine lv_istore_n (lv' := [(2, .int (nI (a + (mkL (kG K) a n (lsR n 0))))), (4, .int (nI gg)), (3, .int (nI (mkL (kG K) a n (lsR n 0)))), (1, .int (nI (lsR n 0))), (0, .ref m0)]) hx hb dX2_lookForRuns_144 rfl hl (by decide) rfl (fun ls hl => ?_)
                      refine lv_goto (tgt := 10) hx hb dX2_lookForRuns_145 (by decide) ?_
                      exact ih_o (a + mkL (kG K) a n (lsR n 0)) (ru2 + 1) me3 mp3 pd3 (max ht2 (pd2 + 1)) (uN_up ln2 ru2 (mkL (kG K) a n (lsR n 0))) pi3 st3 hm9.2 (by rw [← hT, rsF_s c_15, ← hB]) (fun q => absurd q (by omega)) hc3 (fun q => absurd q (by omega)) htr3 (by omega) (by omega) (by omega) _ _ _ hP hD hS (lv_sub hl [0, 3, 4] rfl)
                    · have hg1 : gg = 1 := by omega
                      refine lv_aload_n hx hb dX2_lookForRuns_132 rfl (lv_at hl 4 rfl) ?_
                      refine call_V_I (As := []) (rest := []) (wr := [(mK, .inl (cI, 4096, .inl K)), (mL, .inl (cI, 4096, .inl (fun j => nI ((uN_up ln2 ru2 (mkL (kG K) a n (lsR n 0))) j))))]) ⟨hx, hb, hml, hown, hts⟩ (c_X2_isBrought l dC dI cJ cI m0 mK mT mU mV mL mS th cap n hi (ru2 + 1) me3 mp3 pd3 (max ht2 (pd2 + 1)) pi3 (by omega) hle) (cwV 0 hts gX2_lookForRuns_X2_isBrought rfl rfl rfl (by decide +kernel) ⟨Nat.le_of_ble_eq_true rfl, Nat.le_of_ble_eq_true rfl⟩) hP hD hK hN hS hA [0, 3] [1, 2] [0, 1] rfl rfl rfl (by decide) (by decide) (by decide) 0 2 rfl rfl rfl rfl hl.1 rfl (Nat.le_of_ble_eq_true rfl) dX2_lookForRuns_133 (Nat.le_of_ble_eq_true rfl) (Nat.le_of_ble_eq_true rfl) (fun r_133 u_133 H locs hw_133 hP hD hK1 hS => ?_)
                      refine W.widen (k := 0) (n := 0) (Nat.le_of_ble_eq_true rfl) (Nat.le_of_ble_eq_true rfl) ?_
                      obtain ⟨me4, mp4, pd4, pi4⟩ := u_133
                      have hP : va_P (dC, dI) vwCl [(m0, .inr (2, [.int (nI th), .int (nI cap), .ref mK, .ref mT, .ref mU, .ref mV, .int (nI n), .int (nI hi), .int (nI (ru2 + 1)), .ref mL, .int (nI me4), .long (lN mp4), .ref mS, .int (nI pd4), .int (nI (max ht2 (pd2 + 1)))])), (mK, .inl (cI, 4096, .inl K)), (mL, .inl (cI, 4096, .inl (fun j => nI ((uN_up ln2 ru2 (mkL (kG K) a n (lsR n 0))) j)))), (mS, .inl (cI, 200, .inl (fun j => nI (pi4 j))))] H := ct_Psub hP [2, 0, 1, 3] rfl
                      have hD : va_D A [(m0, .inr (2, [.int (nI th), .int (nI cap), .ref mK, .ref mT, .ref mU, .ref mV, .int (nI n), .int (nI hi), .int (nI (ru2 + 1)), .ref mL, .int (nI me4), .long (lN mp4), .ref mS, .int (nI pd4), .int (nI (max ht2 (pd2 + 1)))])), (mK, .inl (cI, 4096, .inl K)), (mL, .inl (cI, 4096, .inl (fun j => nI ((uN_up ln2 ru2 (mkL (kG K) a n (lsR n 0))) j)))), (mS, .inl (cI, 200, .inl (fun j => nI (pi4 j))))] := hD.sub [2, 0, 1, 3] (by decide) rfl
                      rcases hw_133 with ⟨hnx, rfl, hu⟩ | ⟨q9, hnx, rfl, hu⟩
                      · obtain ⟨e1, e2, e3, e4⟩ : me4 = me3 ∧ mp4 = mp3 ∧ pd4 = pd3 ∧ pi4 = pi3 := by simpa only [Prod.mk.injEq] using hu
                        have hu4 : nxP pi4 pd4 = none := by rw [e4, e3]; exact hnx
                        have hu1 : brg pd4 pi4 me4 mp4 = brg (pd2 + 1) (uN_up pi2 pd2 (mkL (kG K) a n (lsR n 0))) me2 mp2 := by rw [e1, e2, e3, e4]; exact hB
                        have hu2 : pC st3 pi4 pd4 (a + mkL (kG K) a n (lsR n 0)) := by rw [e3, e4]; exact hc3
                        have hu3 : tr2 pi4 pd4 := by rw [e3, e4]; exact ht3
                        refine lv_istore (lv' := [(4, .int (nI 0)), (3, .int (nI (mkL (kG K) a n (lsR n 0)))), (2, .int (nI a)), (1, .int (nI (lsR n 0))), (0, .ref m0)]) hx hb dX2_lookForRuns_136 hl (by decide) rfl (fun ls hl => ?_)
                        refine lv_goto (tgt := 127) hx hb dX2_lookForRuns_138 (by decide) ?_
                        exact ih_i 0  me4 mp4 pd4 pi4 st3 (Or.inr ⟨rfl, hu4⟩) hu1 hu2 hu3 (by omega) (by omega) (by omega) _ _ _ hP hD hS (lv_sub hl [0, 1, 2, 3, 4] rfl)
                      · obtain ⟨e1, e2, e3, e4⟩ : me4 = me3 + 1 ∧ mp4 = mp3 + (pi3 q9 + pi3 (q9 + 1)) ∧ pd4 = pd3 - 1 ∧ pi4 = jn pi3 pd3 q9 := by simpa only [Prod.mk.injEq] using hu
                        have hq9 := nxP_in hnx
                        have hu1 : brg pd4 pi4 me4 mp4 = brg (pd2 + 1) (uN_up pi2 pd2 (mkL (kG K) a n (lsR n 0))) me2 mp2 := by rw [e1, e2, e3, e4, ← hB, brg_s hnx]
                        have hu2 : pC (shf st3 (q9 + 1) (pd3 - 1)) pi4 pd4 (a + mkL (kG K) a n (lsR n 0)) := by rw [e3, e4]; exact pC_jn hq9.1 hc3
                        have hu3 : tr2 pi4 pd4 := by rw [e3, e4]; exact tr2_jn hq9.1 hq9.2 ht3
                        refine lv_istore (lv' := [(4, .int (nI 1)), (3, .int (nI (mkL (kG K) a n (lsR n 0)))), (2, .int (nI a)), (1, .int (nI (lsR n 0))), (0, .ref m0)]) hx hb dX2_lookForRuns_136 hl (by decide) rfl (fun ls hl => ?_)
                        refine lv_goto (tgt := 127) hx hb dX2_lookForRuns_138 (by decide) ?_
                        exact ih_i 1  me4 mp4 pd4 pi4 (shf st3 (q9 + 1) (pd3 - 1)) (Or.inl rfl) hu1 hu2 hu3 (by omega) (by omega) (by omega) _ _ _ hP hD hS (lv_sub hl [0, 1, 2, 3, 4] rfl)
                exact L_i (_ + 1) 1 me2 mp2 (pd2 + 1) (uN_up pi2 pd2 (mkL (kG K) a n (lsR n 0))) (uN_up st2 pd2 a) (Or.inl rfl) rfl (pC_push hc2 h0 hm9.1) (tr2_push htr) (Nat.le_refl _) (Nat.succ_pos _) (Nat.lt_succ_self _) _ _ _ hP hD hS (lv_sub hl [0, 1, 2, 3, 4] rfl)
              · have hv9 : nI (pd2 + 1) = nI (max ht2 (pd2 + 1)) := congrArg nI (by omega)
                refine lv_aload_n hx hb dX2_lookForRuns_110 rfl (lv_at hl 3 rfl) ?_
                refine va_get (D := (dC, dI)) (ci := 2) (v := .int (nI (pd2 + 1))) (C := RX2) (T := TX2) (N := 15) hx hb hts hin_2 hown hK hP 0 rfl rfl 13 (by decide) k_2 (fun _ h9 => h9) rfl dX2_lookForRuns_111 ?_
                refine lv_goto (tgt := 121) hx hb dX2_lookForRuns_114 (by decide) ?_
                refine xr_top (y := nI (max ht2 (pd2 + 1))) (hv9) ?_
                refine va_put (D := (dC, dI)) (ci := 2) (v := .int (nI (max ht2 (pd2 + 1)))) (ty := .int) (C := RX2) (T := TX2) (N := 15) hx hb hts hin_2 tyX2 tyX2_ok nmX2 hown hK hP hD hS 0 rfl rfl 14 (by decide) k_6 (fun _ h9 => h9) rfl (by decide +kernel) rfl rfl (Nat.le_of_ble_eq_true rfl) dX2_lookForRuns_121 (fun H locs hP hD hS => ?_)
                have hP : va_P (dC, dI) vwCl [(m0, .inr (2, [.int (nI th), .int (nI cap), .ref mK, .ref mT, .ref mU, .ref mV, .int (nI n), .int (nI hi), .int (nI (ru2 + 1)), .ref mL, .int (nI me2), .long (lN mp2), .ref mS, .int (nI (pd2 + 1)), .int (nI (max ht2 (pd2 + 1)))])), (mK, .inl (cI, 4096, .inl K)), (mL, .inl (cI, 4096, .inl (fun j => nI ((uN_up ln2 ru2 (mkL (kG K) a n (lsR n 0))) j)))), (mS, .inl (cI, 200, .inl (fun j => nI ((uN_up pi2 pd2 (mkL (kG K) a n (lsR n 0))) j))))] H := hP
                have hD : va_D A [(m0, .inr (2, [.int (nI th), .int (nI cap), .ref mK, .ref mT, .ref mU, .ref mV, .int (nI n), .int (nI hi), .int (nI (ru2 + 1)), .ref mL, .int (nI me2), .long (lN mp2), .ref mS, .int (nI (pd2 + 1)), .int (nI (max ht2 (pd2 + 1)))])), (mK, .inl (cI, 4096, .inl K)), (mL, .inl (cI, 4096, .inl (fun j => nI ((uN_up ln2 ru2 (mkL (kG K) a n (lsR n 0))) j)))), (mS, .inl (cI, 200, .inl (fun j => nI ((uN_up pi2 pd2 (mkL (kG K) a n (lsR n 0))) j))))] := hD
                refine lv_iconst (v := nI 1) hx hb dX2_lookForRuns_124 (by decide) ?_
                refine lv_istore (lv' := [(4, .int (nI 1)), (3, .int (nI (mkL (kG K) a n (lsR n 0)))), (2, .int (nI a)), (1, .int (nI (lsR n 0))), (0, .ref m0)]) hx hb dX2_lookForRuns_125 hl (by decide) rfl (fun ls hl => ?_)
                have L_i : ∀ (kq : Nat) (gg me3 mp3 pd3 : Nat) (pi3 st3 : Nat → Nat), (gg = 1 ∨ (gg = 0 ∧ nxP pi3 pd3 = none)) → (brg pd3 pi3 me3 mp3 = brg (pd2 + 1) (uN_up pi2 pd2 (mkL (kG K) a n (lsR n 0))) me2 mp2) → (pC st3 pi3 pd3 (a + mkL (kG K) a n (lsR n 0))) → (tr2 pi3 pd3) → (pd3 ≤ pd2 + 1) → (0 < pd3) → pd3 + gg < kq → ∀ (H : Heap) (locs : List Loc) (ls : Array Slot), va_P (dC, dI) vwCl [(m0, .inr (2, [.int (nI th), .int (nI cap), .ref mK, .ref mT, .ref mU, .ref mV, .int (nI n), .int (nI hi), .int (nI (ru2 + 1)), .ref mL, .int (nI me3), .long (lN mp3), .ref mS, .int (nI pd3), .int (nI (max ht2 (pd2 + 1)))])), (mK, .inl (cI, 4096, .inl K)), (mL, .inl (cI, 4096, .inl (fun j => nI ((uN_up ln2 ru2 (mkL (kG K) a n (lsR n 0))) j)))), (mS, .inl (cI, 200, .inl (fun j => nI (pi3 j))))] H → va_D A [(m0, .inr (2, [.int (nI th), .int (nI cap), .ref mK, .ref mT, .ref mU, .ref mV, .int (nI n), .int (nI hi), .int (nI (ru2 + 1)), .ref mL, .int (nI me3), .long (lN mp3), .ref mS, .int (nI pd3), .int (nI (max ht2 (pd2 + 1)))])), (mK, .inl (cI, 4096, .inl K)), (mL, .inl (cI, 4096, .inl (fun j => nI ((uN_up ln2 ru2 (mkL (kG K) a n (lsR n 0))) j)))), (mS, .inl (cI, 200, .inl (fun j => nI (pi3 j))))] → va_S A s.heap H locs → lv_has ls 5 [(4, .int (nI gg)), (3, .int (nI (mkL (kG K) a n (lsR n 0)))), (2, .int (nI a)), (1, .int (nI (lsR n 0))), (0, .ref m0)] → W p l e rmX2_lookForRuns s m args below meth c H locs 0 0 Q (F0 m 127 ls []) := by
                  intro kq
                  induction kq with
                  | zero =>
                    intro gg me3 mp3 pd3 pi3 st3 hg hB hc3 ht3 hp3 hp4 hm
                    exact absurd hm (Nat.not_lt_zero _)
                  | succ kq ih_i =>
                    intro gg me3 mp3 pd3 pi3 st3 hg hB hc3 ht3 hp3 hp4 hm H locs ls hP hD hS hl
                    have hle : ∀ j, j < pd3 → pi3 j ≤ 4096 := fun j hj => by have := (hc3.2.2 j hj).2; omega
                    refine lv_iload hx hb dX2_lookForRuns_127 (lv_at hl 0 rfl) ?_
                    refine xr_if_eq (tgt := 141) hx hb dX2_lookForRuns_129 (by decide) (by omega) (fun c_129 => ?_) (fun c_129 => ?_)
                    · have hg0 : nxP pi3 pd3 = none := hg.elim (fun q => absurd q (by omega)) (fun q => q.2)
                      have htr3 := brg_trp pd3 pi3 me3 mp3 ht3
                      rw [brg_n hg0] at hB htr3
                      refine lv_iload_n hx hb dX2_lookForRuns_141 rfl (lv_at hl 2 rfl) ?_
                      refine lv_iload_n hx hb dX2_lookForRuns_142 rfl (lv_at hl 1 rfl) ?_
                      refine xr_iadd hx hb dX2_lookForRuns_143 ?_
                      refine lv_istore_n (lv' := [(2, .int (nI (a + (mkL (kG K) a n (lsR n 0))))), (4, .int (nI gg)), (3, .int (nI (mkL (kG K) a n (lsR n 0)))), (1, .int (nI (lsR n 0))), (0, .ref m0)]) hx hb dX2_lookForRuns_144 rfl hl (by decide) rfl (fun ls hl => ?_)
                      refine lv_goto (tgt := 10) hx hb dX2_lookForRuns_145 (by decide) ?_
                      exact ih_o (a + mkL (kG K) a n (lsR n 0)) (ru2 + 1) me3 mp3 pd3 (max ht2 (pd2 + 1)) (uN_up ln2 ru2 (mkL (kG K) a n (lsR n 0))) pi3 st3 hm9.2 (by rw [← hT, rsF_s c_15, ← hB]) (fun q => absurd q (by omega)) hc3 (fun q => absurd q (by omega)) htr3 (by omega) (by omega) (by omega) _ _ _ hP hD hS (lv_sub hl [0, 3, 4] rfl)
                    · have hg1 : gg = 1 := by omega
                      refine lv_aload_n hx hb dX2_lookForRuns_132 rfl (lv_at hl 4 rfl) ?_
                      refine call_V_I (As := []) (rest := []) (wr := [(mK, .inl (cI, 4096, .inl K)), (mL, .inl (cI, 4096, .inl (fun j => nI ((uN_up ln2 ru2 (mkL (kG K) a n (lsR n 0))) j))))]) ⟨hx, hb, hml, hown, hts⟩ (c_X2_isBrought l dC dI cJ cI m0 mK mT mU mV mL mS th cap n hi (ru2 + 1) me3 mp3 pd3 (max ht2 (pd2 + 1)) pi3 (by omega) hle) (cwV 0 hts gX2_lookForRuns_X2_isBrought rfl rfl rfl (by decide +kernel) ⟨Nat.le_of_ble_eq_true rfl, Nat.le_of_ble_eq_true rfl⟩) hP hD hK hN hS hA [0, 3] [1, 2] [0, 1] rfl rfl rfl (by decide) (by decide) (by decide) 0 2 rfl rfl rfl rfl hl.1 rfl (Nat.le_of_ble_eq_true rfl) dX2_lookForRuns_133 (Nat.le_of_ble_eq_true rfl) (Nat.le_of_ble_eq_true rfl) (fun r_133 u_133 H locs hw_133 hP hD hK1 hS => ?_)
                      refine W.widen (k := 0) (n := 0) (Nat.le_of_ble_eq_true rfl) (Nat.le_of_ble_eq_true rfl) ?_
                      obtain ⟨me4, mp4, pd4, pi4⟩ := u_133
                      have hP : va_P (dC, dI) vwCl [(m0, .inr (2, [.int (nI th), .int (nI cap), .ref mK, .ref mT, .ref mU, .ref mV, .int (nI n), .int (nI hi), .int (nI (ru2 + 1)), .ref mL, .int (nI me4), .long (lN mp4), .ref mS, .int (nI pd4), .int (nI (max ht2 (pd2 + 1)))])), (mK, .inl (cI, 4096, .inl K)), (mL, .inl (cI, 4096, .inl (fun j => nI ((uN_up ln2 ru2 (mkL (kG K) a n (lsR n 0))) j)))), (mS, .inl (cI, 200, .inl (fun j => nI (pi4 j))))] H := ct_Psub hP [2, 0, 1, 3] rfl
                      have hD : va_D A [(m0, .inr (2, [.int (nI th), .int (nI cap), .ref mK, .ref mT, .ref mU, .ref mV, .int (nI n), .int (nI hi), .int (nI (ru2 + 1)), .ref mL, .int (nI me4), .long (lN mp4), .ref mS, .int (nI pd4), .int (nI (max ht2 (pd2 + 1)))])), (mK, .inl (cI, 4096, .inl K)), (mL, .inl (cI, 4096, .inl (fun j => nI ((uN_up ln2 ru2 (mkL (kG K) a n (lsR n 0))) j)))), (mS, .inl (cI, 200, .inl (fun j => nI (pi4 j))))] := hD.sub [2, 0, 1, 3] (by decide) rfl
                      rcases hw_133 with ⟨hnx, rfl, hu⟩ | ⟨q9, hnx, rfl, hu⟩
                      · obtain ⟨e1, e2, e3, e4⟩ : me4 = me3 ∧ mp4 = mp3 ∧ pd4 = pd3 ∧ pi4 = pi3 := by simpa only [Prod.mk.injEq] using hu
                        have hu4 : nxP pi4 pd4 = none := by rw [e4, e3]; exact hnx
                        have hu1 : brg pd4 pi4 me4 mp4 = brg (pd2 + 1) (uN_up pi2 pd2 (mkL (kG K) a n (lsR n 0))) me2 mp2 := by rw [e1, e2, e3, e4]; exact hB
                        have hu2 : pC st3 pi4 pd4 (a + mkL (kG K) a n (lsR n 0)) := by rw [e3, e4]; exact hc3
                        have hu3 : tr2 pi4 pd4 := by rw [e3, e4]; exact ht3
                        refine lv_istore (lv' := [(4, .int (nI 0)), (3, .int (nI (mkL (kG K) a n (lsR n 0)))), (2, .int (nI a)), (1, .int (nI (lsR n 0))), (0, .ref m0)]) hx hb dX2_lookForRuns_136 hl (by decide) rfl (fun ls hl => ?_)
                        refine lv_goto (tgt := 127) hx hb dX2_lookForRuns_138 (by decide) ?_
                        exact ih_i 0  me4 mp4 pd4 pi4 st3 (Or.inr ⟨rfl, hu4⟩) hu1 hu2 hu3 (by omega) (by omega) (by omega) _ _ _ hP hD hS (lv_sub hl [0, 1, 2, 3, 4] rfl)
                      · obtain ⟨e1, e2, e3, e4⟩ : me4 = me3 + 1 ∧ mp4 = mp3 + (pi3 q9 + pi3 (q9 + 1)) ∧ pd4 = pd3 - 1 ∧ pi4 = jn pi3 pd3 q9 := by simpa only [Prod.mk.injEq] using hu
                        have hq9 := nxP_in hnx
                        have hu1 : brg pd4 pi4 me4 mp4 = brg (pd2 + 1) (uN_up pi2 pd2 (mkL (kG K) a n (lsR n 0))) me2 mp2 := by rw [e1, e2, e3, e4, ← hB, brg_s hnx]
                        have hu2 : pC (shf st3 (q9 + 1) (pd3 - 1)) pi4 pd4 (a + mkL (kG K) a n (lsR n 0)) := by rw [e3, e4]; exact pC_jn hq9.1 hc3
                        have hu3 : tr2 pi4 pd4 := by rw [e3, e4]; exact tr2_jn hq9.1 hq9.2 ht3
                        refine lv_istore (lv' := [(4, .int (nI 1)), (3, .int (nI (mkL (kG K) a n (lsR n 0)))), (2, .int (nI a)), (1, .int (nI (lsR n 0))), (0, .ref m0)]) hx hb dX2_lookForRuns_136 hl (by decide) rfl (fun ls hl => ?_)
                        refine lv_goto (tgt := 127) hx hb dX2_lookForRuns_138 (by decide) ?_
                        exact ih_i 1  me4 mp4 pd4 pi4 (shf st3 (q9 + 1) (pd3 - 1)) (Or.inl rfl) hu1 hu2 hu3 (by omega) (by omega) (by omega) _ _ _ hP hD hS (lv_sub hl [0, 1, 2, 3, 4] rfl)
                exact L_i (_ + 1) 1 me2 mp2 (pd2 + 1) (uN_up pi2 pd2 (mkL (kG K) a n (lsR n 0))) (uN_up st2 pd2 a) (Or.inl rfl) rfl (pC_push hc2 h0 hm9.1) (tr2_push htr) (Nat.le_refl _) (Nat.succ_pos _) (Nat.lt_succ_self _) _ _ _ hP hD hS (lv_sub hl [0, 1, 2, 3, 4] rfl)
            · refine lv_aload_n hx hb dX2_lookForRuns_47 rfl (lv_at hl 3 rfl) ?_
              refine va_get (D := (dC, dI)) (ci := 2) (v := .int (nI n)) (C := RX2) (T := TX2) (N := 15) hx hb hts hin_2 hown hK hP 0 rfl rfl 6 (by decide) k_1 (fun _ h9 => h9) rfl dX2_lookForRuns_48 ?_
              refine lv_iload_n hx hb dX2_lookForRuns_51 rfl (lv_at hl 1 rfl) ?_
              refine xr_isub hx hb dX2_lookForRuns_52 (by omega) ?_
              refine lv_goto (tgt := 57) hx hb dX2_lookForRuns_53 (by decide) ?_
              refine lv_istore_n (lv' := [(3, .int (nI (n - a))), (2, .int (nI a)), (1, .int (nI (lsR n 0))), (0, .ref m0)]) hx hb dX2_lookForRuns_57 rfl hl (by decide) rfl (fun ls hl => ?_)
              have e9 : n - a = mkL (kG K) a n (lsR n 0) := by unfold mkL; omega
              have hl : lv_has ls 5 [(3, .int (nI (mkL (kG K) a n (lsR n 0)))), (2, .int (nI a)), (1, .int (nI (lsR n 0))), (0, .ref m0)] := by rw [← e9]; exact hl
              have hm9 := mkL_in (κ := kG K) (lsR n 0) c_15
              have hpd := trp_ct htr hc2 (by omega)
              clear e9
              refine lv_aload_n hx hb dX2_lookForRuns_58 rfl (lv_at hl 3 rfl) ?_
              refine va_get (D := (dC, dI)) (ci := 2) (v := .ref mL) (C := RX2) (T := TX2) (N := 15) hx hb hts hin_2 hown hK hP 0 rfl rfl 9 (by decide) k_3 (fun _ h9 => h9) rfl dX2_lookForRuns_59 ?_
              refine lv_aload_n hx hb dX2_lookForRuns_62 rfl (lv_at hl 3 rfl) ?_
              refine va_get (D := (dC, dI)) (ci := 2) (v := .int (nI ru2)) (C := RX2) (T := TX2) (N := 15) hx hb hts hin_2 hown hK hP 0 rfl rfl 8 (by decide) k_4 (fun _ h9 => h9) rfl dX2_lookForRuns_63 ?_
              refine lv_iload_n hx hb dX2_lookForRuns_66 rfl (lv_at hl 0 rfl) ?_
              refine xr_iastN hx hb hK hP hD hS 2 1 rfl rfl (by omega) (by omega) dX2_lookForRuns_67 (fun H locs hP hD hS => ?_)
              have hP : va_P (dC, dI) vwCl [(m0, .inr (2, [.int (nI th), .int (nI cap), .ref mK, .ref mT, .ref mU, .ref mV, .int (nI n), .int (nI hi), .int (nI ru2), .ref mL, .int (nI me2), .long (lN mp2), .ref mS, .int (nI pd2), .int (nI ht2)])), (mK, .inl (cI, 4096, .inl K)), (mL, .inl (cI, 4096, .inl (fun j => nI ((uN_up ln2 ru2 (mkL (kG K) a n (lsR n 0))) j)))), (mS, .inl (cI, 200, .inl (fun j => nI (pi2 j))))] H := hP
              have hD : va_D A [(m0, .inr (2, [.int (nI th), .int (nI cap), .ref mK, .ref mT, .ref mU, .ref mV, .int (nI n), .int (nI hi), .int (nI ru2), .ref mL, .int (nI me2), .long (lN mp2), .ref mS, .int (nI pd2), .int (nI ht2)])), (mK, .inl (cI, 4096, .inl K)), (mL, .inl (cI, 4096, .inl (fun j => nI ((uN_up ln2 ru2 (mkL (kG K) a n (lsR n 0))) j)))), (mS, .inl (cI, 200, .inl (fun j => nI (pi2 j))))] := hD
              refine lv_aload_n hx hb dX2_lookForRuns_68 rfl (lv_at hl 3 rfl) ?_
              refine lv_dup hx hb dX2_lookForRuns_69 rfl ?_
              refine va_get (D := (dC, dI)) (ci := 2) (v := .int (nI ru2)) (C := RX2) (T := TX2) (N := 15) hx hb hts hin_2 hown hK hP 0 rfl rfl 8 (by decide) k_4 (fun _ h9 => h9) rfl dX2_lookForRuns_70 ?_
              refine lv_iconst (v := nI 1) hx hb dX2_lookForRuns_73 (by decide) ?_
              refine xr_iadd hx hb dX2_lookForRuns_74 ?_
              refine va_put (D := (dC, dI)) (ci := 2) (v := .int (nI (ru2 + 1))) (ty := .int) (C := RX2) (T := TX2) (N := 15) hx hb hts hin_2 tyX2 tyX2_ok nmX2 hown hK hP hD hS 0 rfl rfl 8 (by decide) k_4 (fun _ h9 => h9) rfl (by decide +kernel) rfl rfl (Nat.le_of_ble_eq_true rfl) dX2_lookForRuns_75 (fun H locs hP hD hS => ?_)
              have hP : va_P (dC, dI) vwCl [(m0, .inr (2, [.int (nI th), .int (nI cap), .ref mK, .ref mT, .ref mU, .ref mV, .int (nI n), .int (nI hi), .int (nI (ru2 + 1)), .ref mL, .int (nI me2), .long (lN mp2), .ref mS, .int (nI pd2), .int (nI ht2)])), (mK, .inl (cI, 4096, .inl K)), (mL, .inl (cI, 4096, .inl (fun j => nI ((uN_up ln2 ru2 (mkL (kG K) a n (lsR n 0))) j)))), (mS, .inl (cI, 200, .inl (fun j => nI (pi2 j))))] H := hP
              have hD : va_D A [(m0, .inr (2, [.int (nI th), .int (nI cap), .ref mK, .ref mT, .ref mU, .ref mV, .int (nI n), .int (nI hi), .int (nI (ru2 + 1)), .ref mL, .int (nI me2), .long (lN mp2), .ref mS, .int (nI pd2), .int (nI ht2)])), (mK, .inl (cI, 4096, .inl K)), (mL, .inl (cI, 4096, .inl (fun j => nI ((uN_up ln2 ru2 (mkL (kG K) a n (lsR n 0))) j)))), (mS, .inl (cI, 200, .inl (fun j => nI (pi2 j))))] := hD
              refine lv_aload_n hx hb dX2_lookForRuns_78 rfl (lv_at hl 3 rfl) ?_
              refine va_get (D := (dC, dI)) (ci := 2) (v := .ref mS) (C := RX2) (T := TX2) (N := 15) hx hb hts hin_2 hown hK hP 0 rfl rfl 12 (by decide) k_5 (fun _ h9 => h9) rfl dX2_lookForRuns_79 ?_
              refine lv_aload_n hx hb dX2_lookForRuns_82 rfl (lv_at hl 3 rfl) ?_
              refine va_get (D := (dC, dI)) (ci := 2) (v := .int (nI pd2)) (C := RX2) (T := TX2) (N := 15) hx hb hts hin_2 hown hK hP 0 rfl rfl 13 (by decide) k_2 (fun _ h9 => h9) rfl dX2_lookForRuns_83 ?_
              refine lv_iload_n hx hb dX2_lookForRuns_86 rfl (lv_at hl 0 rfl) ?_
              refine xr_iastN hx hb hK hP hD hS 3 1 rfl rfl (by omega) (by omega) dX2_lookForRuns_87 (fun H locs hP hD hS => ?_)
              have hP : va_P (dC, dI) vwCl [(m0, .inr (2, [.int (nI th), .int (nI cap), .ref mK, .ref mT, .ref mU, .ref mV, .int (nI n), .int (nI hi), .int (nI (ru2 + 1)), .ref mL, .int (nI me2), .long (lN mp2), .ref mS, .int (nI pd2), .int (nI ht2)])), (mK, .inl (cI, 4096, .inl K)), (mL, .inl (cI, 4096, .inl (fun j => nI ((uN_up ln2 ru2 (mkL (kG K) a n (lsR n 0))) j)))), (mS, .inl (cI, 200, .inl (fun j => nI ((uN_up pi2 pd2 (mkL (kG K) a n (lsR n 0))) j))))] H := hP
              have hD : va_D A [(m0, .inr (2, [.int (nI th), .int (nI cap), .ref mK, .ref mT, .ref mU, .ref mV, .int (nI n), .int (nI hi), .int (nI (ru2 + 1)), .ref mL, .int (nI me2), .long (lN mp2), .ref mS, .int (nI pd2), .int (nI ht2)])), (mK, .inl (cI, 4096, .inl K)), (mL, .inl (cI, 4096, .inl (fun j => nI ((uN_up ln2 ru2 (mkL (kG K) a n (lsR n 0))) j)))), (mS, .inl (cI, 200, .inl (fun j => nI ((uN_up pi2 pd2 (mkL (kG K) a n (lsR n 0))) j))))] := hD
              refine lv_aload_n hx hb dX2_lookForRuns_88 rfl (lv_at hl 3 rfl) ?_
              refine lv_dup hx hb dX2_lookForRuns_89 rfl ?_
              refine va_get (D := (dC, dI)) (ci := 2) (v := .int (nI pd2)) (C := RX2) (T := TX2) (N := 15) hx hb hts hin_2 hown hK hP 0 rfl rfl 13 (by decide) k_2 (fun _ h9 => h9) rfl dX2_lookForRuns_90 ?_
              refine lv_iconst (v := nI 1) hx hb dX2_lookForRuns_93 (by decide) ?_
              refine xr_iadd hx hb dX2_lookForRuns_94 ?_
              refine va_put (D := (dC, dI)) (ci := 2) (v := .int (nI (pd2 + 1))) (ty := .int) (C := RX2) (T := TX2) (N := 15) hx hb hts hin_2 tyX2 tyX2_ok nmX2 hown hK hP hD hS 0 rfl rfl 13 (by decide) k_2 (fun _ h9 => h9) rfl (by decide +kernel) rfl rfl (Nat.le_of_ble_eq_true rfl) dX2_lookForRuns_95 (fun H locs hP hD hS => ?_)
              have hP : va_P (dC, dI) vwCl [(m0, .inr (2, [.int (nI th), .int (nI cap), .ref mK, .ref mT, .ref mU, .ref mV, .int (nI n), .int (nI hi), .int (nI (ru2 + 1)), .ref mL, .int (nI me2), .long (lN mp2), .ref mS, .int (nI (pd2 + 1)), .int (nI ht2)])), (mK, .inl (cI, 4096, .inl K)), (mL, .inl (cI, 4096, .inl (fun j => nI ((uN_up ln2 ru2 (mkL (kG K) a n (lsR n 0))) j)))), (mS, .inl (cI, 200, .inl (fun j => nI ((uN_up pi2 pd2 (mkL (kG K) a n (lsR n 0))) j))))] H := hP
              have hD : va_D A [(m0, .inr (2, [.int (nI th), .int (nI cap), .ref mK, .ref mT, .ref mU, .ref mV, .int (nI n), .int (nI hi), .int (nI (ru2 + 1)), .ref mL, .int (nI me2), .long (lN mp2), .ref mS, .int (nI (pd2 + 1)), .int (nI ht2)])), (mK, .inl (cI, 4096, .inl K)), (mL, .inl (cI, 4096, .inl (fun j => nI ((uN_up ln2 ru2 (mkL (kG K) a n (lsR n 0))) j)))), (mS, .inl (cI, 200, .inl (fun j => nI ((uN_up pi2 pd2 (mkL (kG K) a n (lsR n 0))) j))))] := hD
              refine lv_aload_n hx hb dX2_lookForRuns_98 rfl (lv_at hl 3 rfl) ?_
              refine lv_aload_n hx hb dX2_lookForRuns_99 rfl (lv_at hl 3 rfl) ?_
              refine va_get (D := (dC, dI)) (ci := 2) (v := .int (nI (pd2 + 1))) (C := RX2) (T := TX2) (N := 15) hx hb hts hin_2 hown hK hP 0 rfl rfl 13 (by decide) k_2 (fun _ h9 => h9) rfl dX2_lookForRuns_100 ?_
              refine lv_aload_n hx hb dX2_lookForRuns_103 rfl (lv_at hl 3 rfl) ?_
              refine va_get (D := (dC, dI)) (ci := 2) (v := .int (nI ht2)) (C := RX2) (T := TX2) (N := 15) hx hb hts hin_2 hown hK hP 0 rfl rfl 14 (by decide) k_6 (fun _ h9 => h9) rfl dX2_lookForRuns_104 ?_
              refine xr_icmp_le (tgt := 117) hx hb dX2_lookForRuns_107 (by decide) (by omega) (by omega) (fun c_107 => ?_) (fun c_107 => ?_)
              · have hv9 : nI ht2 = nI (max ht2 (pd2 + 1)) := congrArg nI (by omega)
                refine lv_aload_n hx hb dX2_lookForRuns_117 rfl (lv_at hl 3 rfl) ?_
                refine va_get (D := (dC, dI)) (ci := 2) (v := .int (nI ht2)) (C := RX2) (T := TX2) (N := 15) hx hb hts hin_2 hown hK hP 0 rfl rfl 14 (by decide) k_6 (fun _ h9 => h9) rfl dX2_lookForRuns_118 ?_
                refine xr_top (y := nI (max ht2 (pd2 + 1))) (hv9) ?_
                refine va_put (D := (dC, dI)) (ci := 2) (v := .int (nI (max ht2 (pd2 + 1)))) (ty := .int) (C := RX2) (T := TX2) (N := 15) hx hb hts hin_2 tyX2 tyX2_ok nmX2 hown hK hP hD hS 0 rfl rfl 14 (by decide) k_6 (fun _ h9 => h9) rfl (by decide +kernel) rfl rfl (Nat.le_of_ble_eq_true rfl) dX2_lookForRuns_121 (fun H locs hP hD hS => ?_)
                have hP : va_P (dC, dI) vwCl [(m0, .inr (2, [.int (nI th), .int (nI cap), .ref mK, .ref mT, .ref mU, .ref mV, .int (nI n), .int (nI hi), .int (nI (ru2 + 1)), .ref mL, .int (nI me2), .long (lN mp2), .ref mS, .int (nI (pd2 + 1)), .int (nI (max ht2 (pd2 + 1)))])), (mK, .inl (cI, 4096, .inl K)), (mL, .inl (cI, 4096, .inl (fun j => nI ((uN_up ln2 ru2 (mkL (kG K) a n (lsR n 0))) j)))), (mS, .inl (cI, 200, .inl (fun j => nI ((uN_up pi2 pd2 (mkL (kG K) a n (lsR n 0))) j))))] H := hP
                have hD : va_D A [(m0, .inr (2, [.int (nI th), .int (nI cap), .ref mK, .ref mT, .ref mU, .ref mV, .int (nI n), .int (nI hi), .int (nI (ru2 + 1)), .ref mL, .int (nI me2), .long (lN mp2), .ref mS, .int (nI (pd2 + 1)), .int (nI (max ht2 (pd2 + 1)))])), (mK, .inl (cI, 4096, .inl K)), (mL, .inl (cI, 4096, .inl (fun j => nI ((uN_up ln2 ru2 (mkL (kG K) a n (lsR n 0))) j)))), (mS, .inl (cI, 200, .inl (fun j => nI ((uN_up pi2 pd2 (mkL (kG K) a n (lsR n 0))) j))))] := hD
                refine lv_iconst (v := nI 1) hx hb dX2_lookForRuns_124 (by decide) ?_
                refine lv_istore (lv' := [(4, .int (nI 1)), (3, .int (nI (mkL (kG K) a n (lsR n 0)))), (2, .int (nI a)), (1, .int (nI (lsR n 0))), (0, .ref m0)]) hx hb dX2_lookForRuns_125 hl (by decide) rfl (fun ls hl => ?_)
                have L_i : ∀ (kq : Nat) (gg me3 mp3 pd3 : Nat) (pi3 st3 : Nat → Nat), (gg = 1 ∨ (gg = 0 ∧ nxP pi3 pd3 = none)) → (brg pd3 pi3 me3 mp3 = brg (pd2 + 1) (uN_up pi2 pd2 (mkL (kG K) a n (lsR n 0))) me2 mp2) → (pC st3 pi3 pd3 (a + mkL (kG K) a n (lsR n 0))) → (tr2 pi3 pd3) → (pd3 ≤ pd2 + 1) → (0 < pd3) → pd3 + gg < kq → ∀ (H : Heap) (locs : List Loc) (ls : Array Slot), va_P (dC, dI) vwCl [(m0, .inr (2, [.int (nI th), .int (nI cap), .ref mK, .ref mT, .ref mU, .ref mV, .int (nI n), .int (nI hi), .int (nI (ru2 + 1)), .ref mL, .int (nI me3), .long (lN mp3), .ref mS, .int (nI pd3), .int (nI (max ht2 (pd2 + 1)))])), (mK, .inl (cI, 4096, .inl K)), (mL, .inl (cI, 4096, .inl (fun j => nI ((uN_up ln2 ru2 (mkL (kG K) a n (lsR n 0))) j)))), (mS, .inl (cI, 200, .inl (fun j => nI (pi3 j))))] H → va_D A [(m0, .inr (2, [.int (nI th), .int (nI cap), .ref mK, .ref mT, .ref mU, .ref mV, .int (nI n), .int (nI hi), .int (nI (ru2 + 1)), .ref mL, .int (nI me3), .long (lN mp3), .ref mS, .int (nI pd3), .int (nI (max ht2 (pd2 + 1)))])), (mK, .inl (cI, 4096, .inl K)), (mL, .inl (cI, 4096, .inl (fun j => nI ((uN_up ln2 ru2 (mkL (kG K) a n (lsR n 0))) j)))), (mS, .inl (cI, 200, .inl (fun j => nI (pi3 j))))] → va_S A s.heap H locs → lv_has ls 5 [(4, .int (nI gg)), (3, .int (nI (mkL (kG K) a n (lsR n 0)))), (2, .int (nI a)), (1, .int (nI (lsR n 0))), (0, .ref m0)] → W p l e rmX2_lookForRuns s m args below meth c H locs 0 0 Q (F0 m 127 ls []) := by
                  intro kq
                  induction kq with
                  | zero =>
                    intro gg me3 mp3 pd3 pi3 st3 hg hB hc3 ht3 hp3 hp4 hm
                    exact absurd hm (Nat.not_lt_zero _)
                  | succ kq ih_i =>
                    intro gg me3 mp3 pd3 pi3 st3 hg hB hc3 ht3 hp3 hp4 hm H locs ls hP hD hS hl
                    have hle : ∀ j, j < pd3 → pi3 j ≤ 4096 := fun j hj => by have := (hc3.2.2 j hj).2; omega
                    refine lv_iload hx hb dX2_lookForRuns_127 (lv_at hl 0 rfl) ?_
                    refine xr_if_eq (tgt := 141) hx hb dX2_lookForRuns_129 (by decide) (by omega) (fun c_129 => ?_) (fun c_129 => ?_)
                    · have hg0 : nxP pi3 pd3 = none := hg.elim (fun q => absurd q (by omega)) (fun q => q.2)
                      have htr3 := brg_trp pd3 pi3 me3 mp3 ht3
                      rw [brg_n hg0] at hB htr3
                      refine lv_iload_n hx hb dX2_lookForRuns_141 rfl (lv_at hl 2 rfl) ?_
                      refine lv_iload_n hx hb dX2_lookForRuns_142 rfl (lv_at hl 1 rfl) ?_
                      refine xr_iadd hx hb dX2_lookForRuns_143 ?_
                      refine lv_istore_n (lv' := [(2, .int (nI (a + (mkL (kG K) a n (lsR n 0))))), (4, .int (nI gg)), (3, .int (nI (mkL (kG K) a n (lsR n 0)))), (1, .int (nI (lsR n 0))), (0, .ref m0)]) hx hb dX2_lookForRuns_144 rfl hl (by decide) rfl (fun ls hl => ?_)
                      refine lv_goto (tgt := 10) hx hb dX2_lookForRuns_145 (by decide) ?_
                      exact ih_o (a + mkL (kG K) a n (lsR n 0)) (ru2 + 1) me3 mp3 pd3 (max ht2 (pd2 + 1)) (uN_up ln2 ru2 (mkL (kG K) a n (lsR n 0))) pi3 st3 hm9.2 (by rw [← hT, rsF_s c_15, ← hB]) (fun q => absurd q (by omega)) hc3 (fun q => absurd q (by omega)) htr3 (by omega) (by omega) (by omega) _ _ _ hP hD hS (lv_sub hl [0, 3, 4] rfl)
                    · have hg1 : gg = 1 := by omega
                      refine lv_aload_n hx hb dX2_lookForRuns_132 rfl (lv_at hl 4 rfl) ?_
                      refine call_V_I (As := []) (rest := []) (wr := [(mK, .inl (cI, 4096, .inl K)), (mL, .inl (cI, 4096, .inl (fun j => nI ((uN_up ln2 ru2 (mkL (kG K) a n (lsR n 0))) j))))]) ⟨hx, hb, hml, hown, hts⟩ (c_X2_isBrought l dC dI cJ cI m0 mK mT mU mV mL mS th cap n hi (ru2 + 1) me3 mp3 pd3 (max ht2 (pd2 + 1)) pi3 (by omega) hle) (cwV 0 hts gX2_lookForRuns_X2_isBrought rfl rfl rfl (by decide +kernel) ⟨Nat.le_of_ble_eq_true rfl, Nat.le_of_ble_eq_true rfl⟩) hP hD hK hN hS hA [0, 3] [1, 2] [0, 1] rfl rfl rfl (by decide) (by decide) (by decide) 0 2 rfl rfl rfl rfl hl.1 rfl (Nat.le_of_ble_eq_true rfl) dX2_lookForRuns_133 (Nat.le_of_ble_eq_true rfl) (Nat.le_of_ble_eq_true rfl) (fun r_133 u_133 H locs hw_133 hP hD hK1 hS => ?_)
                      refine W.widen (k := 0) (n := 0) (Nat.le_of_ble_eq_true rfl) (Nat.le_of_ble_eq_true rfl) ?_
                      obtain ⟨me4, mp4, pd4, pi4⟩ := u_133
                      have hP : va_P (dC, dI) vwCl [(m0, .inr (2, [.int (nI th), .int (nI cap), .ref mK, .ref mT, .ref mU, .ref mV, .int (nI n), .int (nI hi), .int (nI (ru2 + 1)), .ref mL, .int (nI me4), .long (lN mp4), .ref mS, .int (nI pd4), .int (nI (max ht2 (pd2 + 1)))])), (mK, .inl (cI, 4096, .inl K)), (mL, .inl (cI, 4096, .inl (fun j => nI ((uN_up ln2 ru2 (mkL (kG K) a n (lsR n 0))) j)))), (mS, .inl (cI, 200, .inl (fun j => nI (pi4 j))))] H := ct_Psub hP [2, 0, 1, 3] rfl
                      have hD : va_D A [(m0, .inr (2, [.int (nI th), .int (nI cap), .ref mK, .ref mT, .ref mU, .ref mV, .int (nI n), .int (nI hi), .int (nI (ru2 + 1)), .ref mL, .int (nI me4), .long (lN mp4), .ref mS, .int (nI pd4), .int (nI (max ht2 (pd2 + 1)))])), (mK, .inl (cI, 4096, .inl K)), (mL, .inl (cI, 4096, .inl (fun j => nI ((uN_up ln2 ru2 (mkL (kG K) a n (lsR n 0))) j)))), (mS, .inl (cI, 200, .inl (fun j => nI (pi4 j))))] := hD.sub [2, 0, 1, 3] (by decide) rfl
                      rcases hw_133 with ⟨hnx, rfl, hu⟩ | ⟨q9, hnx, rfl, hu⟩
                      · obtain ⟨e1, e2, e3, e4⟩ : me4 = me3 ∧ mp4 = mp3 ∧ pd4 = pd3 ∧ pi4 = pi3 := by simpa only [Prod.mk.injEq] using hu
                        have hu4 : nxP pi4 pd4 = none := by rw [e4, e3]; exact hnx
                        have hu1 : brg pd4 pi4 me4 mp4 = brg (pd2 + 1) (uN_up pi2 pd2 (mkL (kG K) a n (lsR n 0))) me2 mp2 := by rw [e1, e2, e3, e4]; exact hB
                        have hu2 : pC st3 pi4 pd4 (a + mkL (kG K) a n (lsR n 0)) := by rw [e3, e4]; exact hc3
                        have hu3 : tr2 pi4 pd4 := by rw [e3, e4]; exact ht3
                        refine lv_istore (lv' := [(4, .int (nI 0)), (3, .int (nI (mkL (kG K) a n (lsR n 0)))), (2, .int (nI a)), (1, .int (nI (lsR n 0))), (0, .ref m0)]) hx hb dX2_lookForRuns_136 hl (by decide) rfl (fun ls hl => ?_)
                        refine lv_goto (tgt := 127) hx hb dX2_lookForRuns_138 (by decide) ?_
                        exact ih_i 0  me4 mp4 pd4 pi4 st3 (Or.inr ⟨rfl, hu4⟩) hu1 hu2 hu3 (by omega) (by omega) (by omega) _ _ _ hP hD hS (lv_sub hl [0, 1, 2, 3, 4] rfl)
                      · obtain ⟨e1, e2, e3, e4⟩ : me4 = me3 + 1 ∧ mp4 = mp3 + (pi3 q9 + pi3 (q9 + 1)) ∧ pd4 = pd3 - 1 ∧ pi4 = jn pi3 pd3 q9 := by simpa only [Prod.mk.injEq] using hu
                        have hq9 := nxP_in hnx
                        have hu1 : brg pd4 pi4 me4 mp4 = brg (pd2 + 1) (uN_up pi2 pd2 (mkL (kG K) a n (lsR n 0))) me2 mp2 := by rw [e1, e2, e3, e4, ← hB, brg_s hnx]
                        have hu2 : pC (shf st3 (q9 + 1) (pd3 - 1)) pi4 pd4 (a + mkL (kG K) a n (lsR n 0)) := by rw [e3, e4]; exact pC_jn hq9.1 hc3
                        have hu3 : tr2 pi4 pd4 := by rw [e3, e4]; exact tr2_jn hq9.1 hq9.2 ht3
                        refine lv_istore (lv' := [(4, .int (nI 1)), (3, .int (nI (mkL (kG K) a n (lsR n 0)))), (2, .int (nI a)), (1, .int (nI (lsR n 0))), (0, .ref m0)]) hx hb dX2_lookForRuns_136 hl (by decide) rfl (fun ls hl => ?_)
                        refine lv_goto (tgt := 127) hx hb dX2_lookForRuns_138 (by decide) ?_
                        exact ih_i 1  me4 mp4 pd4 pi4 (shf st3 (q9 + 1) (pd3 - 1)) (Or.inl rfl) hu1 hu2 hu3 (by omega) (by omega) (by omega) _ _ _ hP hD hS (lv_sub hl [0, 1, 2, 3, 4] rfl)
                exact L_i (_ + 1) 1 me2 mp2 (pd2 + 1) (uN_up pi2 pd2 (mkL (kG K) a n (lsR n 0))) (uN_up st2 pd2 a) (Or.inl rfl) rfl (pC_push hc2 h0 hm9.1) (tr2_push htr) (Nat.le_refl _) (Nat.succ_pos _) (Nat.lt_succ_self _) _ _ _ hP hD hS (lv_sub hl [0, 1, 2, 3, 4] rfl)
              · have hv9 : nI (pd2 + 1) = nI (max ht2 (pd2 + 1)) := congrArg nI (by omega)
                refine lv_aload_n hx hb dX2_lookForRuns_110 rfl (lv_at hl 3 rfl) ?_
                refine va_get (D := (dC, dI)) (ci := 2) (v := .int (nI (pd2 + 1))) (C := RX2) (T := TX2) (N := 15) hx hb hts hin_2 hown hK hP 0 rfl rfl 13 (by decide) k_2 (fun _ h9 => h9) rfl dX2_lookForRuns_111 ?_
                refine lv_goto (tgt := 121) hx hb dX2_lookForRuns_114 (by decide) ?_
                refine xr_top (y := nI (max ht2 (pd2 + 1))) (hv9) ?_
                refine va_put (D := (dC, dI)) (ci := 2) (v := .int (nI (max ht2 (pd2 + 1)))) (ty := .int) (C := RX2) (T := TX2) (N := 15) hx hb hts hin_2 tyX2 tyX2_ok nmX2 hown hK hP hD hS 0 rfl rfl 14 (by decide) k_6 (fun _ h9 => h9) rfl (by decide +kernel) rfl rfl (Nat.le_of_ble_eq_true rfl) dX2_lookForRuns_121 (fun H locs hP hD hS => ?_)
                have hP : va_P (dC, dI) vwCl [(m0, .inr (2, [.int (nI th), .int (nI cap), .ref mK, .ref mT, .ref mU, .ref mV, .int (nI n), .int (nI hi), .int (nI (ru2 + 1)), .ref mL, .int (nI me2), .long (lN mp2), .ref mS, .int (nI (pd2 + 1)), .int (nI (max ht2 (pd2 + 1)))])), (mK, .inl (cI, 4096, .inl K)), (mL, .inl (cI, 4096, .inl (fun j => nI ((uN_up ln2 ru2 (mkL (kG K) a n (lsR n 0))) j)))), (mS, .inl (cI, 200, .inl (fun j => nI ((uN_up pi2 pd2 (mkL (kG K) a n (lsR n 0))) j))))] H := hP
                have hD : va_D A [(m0, .inr (2, [.int (nI th), .int (nI cap), .ref mK, .ref mT, .ref mU, .ref mV, .int (nI n), .int (nI hi), .int (nI (ru2 + 1)), .ref mL, .int (nI me2), .long (lN mp2), .ref mS, .int (nI (pd2 + 1)), .int (nI (max ht2 (pd2 + 1)))])), (mK, .inl (cI, 4096, .inl K)), (mL, .inl (cI, 4096, .inl (fun j => nI ((uN_up ln2 ru2 (mkL (kG K) a n (lsR n 0))) j)))), (mS, .inl (cI, 200, .inl (fun j => nI ((uN_up pi2 pd2 (mkL (kG K) a n (lsR n 0))) j))))] := hD
                refine lv_iconst (v := nI 1) hx hb dX2_lookForRuns_124 (by decide) ?_
                refine lv_istore (lv' := [(4, .int (nI 1)), (3, .int (nI (mkL (kG K) a n (lsR n 0)))), (2, .int (nI a)), (1, .int (nI (lsR n 0))), (0, .ref m0)]) hx hb dX2_lookForRuns_125 hl (by decide) rfl (fun ls hl => ?_)
                have L_i : ∀ (kq : Nat) (gg me3 mp3 pd3 : Nat) (pi3 st3 : Nat → Nat), (gg = 1 ∨ (gg = 0 ∧ nxP pi3 pd3 = none)) → (brg pd3 pi3 me3 mp3 = brg (pd2 + 1) (uN_up pi2 pd2 (mkL (kG K) a n (lsR n 0))) me2 mp2) → (pC st3 pi3 pd3 (a + mkL (kG K) a n (lsR n 0))) → (tr2 pi3 pd3) → (pd3 ≤ pd2 + 1) → (0 < pd3) → pd3 + gg < kq → ∀ (H : Heap) (locs : List Loc) (ls : Array Slot), va_P (dC, dI) vwCl [(m0, .inr (2, [.int (nI th), .int (nI cap), .ref mK, .ref mT, .ref mU, .ref mV, .int (nI n), .int (nI hi), .int (nI (ru2 + 1)), .ref mL, .int (nI me3), .long (lN mp3), .ref mS, .int (nI pd3), .int (nI (max ht2 (pd2 + 1)))])), (mK, .inl (cI, 4096, .inl K)), (mL, .inl (cI, 4096, .inl (fun j => nI ((uN_up ln2 ru2 (mkL (kG K) a n (lsR n 0))) j)))), (mS, .inl (cI, 200, .inl (fun j => nI (pi3 j))))] H → va_D A [(m0, .inr (2, [.int (nI th), .int (nI cap), .ref mK, .ref mT, .ref mU, .ref mV, .int (nI n), .int (nI hi), .int (nI (ru2 + 1)), .ref mL, .int (nI me3), .long (lN mp3), .ref mS, .int (nI pd3), .int (nI (max ht2 (pd2 + 1)))])), (mK, .inl (cI, 4096, .inl K)), (mL, .inl (cI, 4096, .inl (fun j => nI ((uN_up ln2 ru2 (mkL (kG K) a n (lsR n 0))) j)))), (mS, .inl (cI, 200, .inl (fun j => nI (pi3 j))))] → va_S A s.heap H locs → lv_has ls 5 [(4, .int (nI gg)), (3, .int (nI (mkL (kG K) a n (lsR n 0)))), (2, .int (nI a)), (1, .int (nI (lsR n 0))), (0, .ref m0)] → W p l e rmX2_lookForRuns s m args below meth c H locs 0 0 Q (F0 m 127 ls []) := by
                  intro kq
                  induction kq with
                  | zero =>
                    intro gg me3 mp3 pd3 pi3 st3 hg hB hc3 ht3 hp3 hp4 hm
                    exact absurd hm (Nat.not_lt_zero _)
                  | succ kq ih_i =>
                    intro gg me3 mp3 pd3 pi3 st3 hg hB hc3 ht3 hp3 hp4 hm H locs ls hP hD hS hl
                    have hle : ∀ j, j < pd3 → pi3 j ≤ 4096 := fun j hj => by have := (hc3.2.2 j hj).2; omega
                    refine lv_iload hx hb dX2_lookForRuns_127 (lv_at hl 0 rfl) ?_
                    refine xr_if_eq (tgt := 141) hx hb dX2_lookForRuns_129 (by decide) (by omega) (fun c_129 => ?_) (fun c_129 => ?_)
                    · have hg0 : nxP pi3 pd3 = none := hg.elim (fun q => absurd q (by omega)) (fun q => q.2)
                      have htr3 := brg_trp pd3 pi3 me3 mp3 ht3
                      rw [brg_n hg0] at hB htr3
                      refine lv_iload_n hx hb dX2_lookForRuns_141 rfl (lv_at hl 2 rfl) ?_
                      refine lv_iload_n hx hb dX2_lookForRuns_142 rfl (lv_at hl 1 rfl) ?_
                      refine xr_iadd hx hb dX2_lookForRuns_143 ?_
                      refine lv_istore_n (lv' := [(2, .int (nI (a + (mkL (kG K) a n (lsR n 0))))), (4, .int (nI gg)), (3, .int (nI (mkL (kG K) a n (lsR n 0)))), (1, .int (nI (lsR n 0))), (0, .ref m0)]) hx hb dX2_lookForRuns_144 rfl hl (by decide) rfl (fun ls hl => ?_)
                      refine lv_goto (tgt := 10) hx hb dX2_lookForRuns_145 (by decide) ?_
                      exact ih_o (a + mkL (kG K) a n (lsR n 0)) (ru2 + 1) me3 mp3 pd3 (max ht2 (pd2 + 1)) (uN_up ln2 ru2 (mkL (kG K) a n (lsR n 0))) pi3 st3 hm9.2 (by rw [← hT, rsF_s c_15, ← hB]) (fun q => absurd q (by omega)) hc3 (fun q => absurd q (by omega)) htr3 (by omega) (by omega) (by omega) _ _ _ hP hD hS (lv_sub hl [0, 3, 4] rfl)
                    · have hg1 : gg = 1 := by omega
                      refine lv_aload_n hx hb dX2_lookForRuns_132 rfl (lv_at hl 4 rfl) ?_
                      refine call_V_I (As := []) (rest := []) (wr := [(mK, .inl (cI, 4096, .inl K)), (mL, .inl (cI, 4096, .inl (fun j => nI ((uN_up ln2 ru2 (mkL (kG K) a n (lsR n 0))) j))))]) ⟨hx, hb, hml, hown, hts⟩ (c_X2_isBrought l dC dI cJ cI m0 mK mT mU mV mL mS th cap n hi (ru2 + 1) me3 mp3 pd3 (max ht2 (pd2 + 1)) pi3 (by omega) hle) (cwV 0 hts gX2_lookForRuns_X2_isBrought rfl rfl rfl (by decide +kernel) ⟨Nat.le_of_ble_eq_true rfl, Nat.le_of_ble_eq_true rfl⟩) hP hD hK hN hS hA [0, 3] [1, 2] [0, 1] rfl rfl rfl (by decide) (by decide) (by decide) 0 2 rfl rfl rfl rfl hl.1 rfl (Nat.le_of_ble_eq_true rfl) dX2_lookForRuns_133 (Nat.le_of_ble_eq_true rfl) (Nat.le_of_ble_eq_true rfl) (fun r_133 u_133 H locs hw_133 hP hD hK1 hS => ?_)
                      refine W.widen (k := 0) (n := 0) (Nat.le_of_ble_eq_true rfl) (Nat.le_of_ble_eq_true rfl) ?_
                      obtain ⟨me4, mp4, pd4, pi4⟩ := u_133
                      have hP : va_P (dC, dI) vwCl [(m0, .inr (2, [.int (nI th), .int (nI cap), .ref mK, .ref mT, .ref mU, .ref mV, .int (nI n), .int (nI hi), .int (nI (ru2 + 1)), .ref mL, .int (nI me4), .long (lN mp4), .ref mS, .int (nI pd4), .int (nI (max ht2 (pd2 + 1)))])), (mK, .inl (cI, 4096, .inl K)), (mL, .inl (cI, 4096, .inl (fun j => nI ((uN_up ln2 ru2 (mkL (kG K) a n (lsR n 0))) j)))), (mS, .inl (cI, 200, .inl (fun j => nI (pi4 j))))] H := ct_Psub hP [2, 0, 1, 3] rfl
                      have hD : va_D A [(m0, .inr (2, [.int (nI th), .int (nI cap), .ref mK, .ref mT, .ref mU, .ref mV, .int (nI n), .int (nI hi), .int (nI (ru2 + 1)), .ref mL, .int (nI me4), .long (lN mp4), .ref mS, .int (nI pd4), .int (nI (max ht2 (pd2 + 1)))])), (mK, .inl (cI, 4096, .inl K)), (mL, .inl (cI, 4096, .inl (fun j => nI ((uN_up ln2 ru2 (mkL (kG K) a n (lsR n 0))) j)))), (mS, .inl (cI, 200, .inl (fun j => nI (pi4 j))))] := hD.sub [2, 0, 1, 3] (by decide) rfl
                      rcases hw_133 with ⟨hnx, rfl, hu⟩ | ⟨q9, hnx, rfl, hu⟩
                      · obtain ⟨e1, e2, e3, e4⟩ : me4 = me3 ∧ mp4 = mp3 ∧ pd4 = pd3 ∧ pi4 = pi3 := by simpa only [Prod.mk.injEq] using hu
                        have hu4 : nxP pi4 pd4 = none := by rw [e4, e3]; exact hnx
                        have hu1 : brg pd4 pi4 me4 mp4 = brg (pd2 + 1) (uN_up pi2 pd2 (mkL (kG K) a n (lsR n 0))) me2 mp2 := by rw [e1, e2, e3, e4]; exact hB
                        have hu2 : pC st3 pi4 pd4 (a + mkL (kG K) a n (lsR n 0)) := by rw [e3, e4]; exact hc3
                        have hu3 : tr2 pi4 pd4 := by rw [e3, e4]; exact ht3
                        refine lv_istore (lv' := [(4, .int (nI 0)), (3, .int (nI (mkL (kG K) a n (lsR n 0)))), (2, .int (nI a)), (1, .int (nI (lsR n 0))), (0, .ref m0)]) hx hb dX2_lookForRuns_136 hl (by decide) rfl (fun ls hl => ?_)
                        refine lv_goto (tgt := 127) hx hb dX2_lookForRuns_138 (by decide) ?_
                        exact ih_i 0  me4 mp4 pd4 pi4 st3 (Or.inr ⟨rfl, hu4⟩) hu1 hu2 hu3 (by omega) (by omega) (by omega) _ _ _ hP hD hS (lv_sub hl [0, 1, 2, 3, 4] rfl)
                      · obtain ⟨e1, e2, e3, e4⟩ : me4 = me3 + 1 ∧ mp4 = mp3 + (pi3 q9 + pi3 (q9 + 1)) ∧ pd4 = pd3 - 1 ∧ pi4 = jn pi3 pd3 q9 := by simpa only [Prod.mk.injEq] using hu
                        have hq9 := nxP_in hnx
                        have hu1 : brg pd4 pi4 me4 mp4 = brg (pd2 + 1) (uN_up pi2 pd2 (mkL (kG K) a n (lsR n 0))) me2 mp2 := by rw [e1, e2, e3, e4, ← hB, brg_s hnx]
                        have hu2 : pC (shf st3 (q9 + 1) (pd3 - 1)) pi4 pd4 (a + mkL (kG K) a n (lsR n 0)) := by rw [e3, e4]; exact pC_jn hq9.1 hc3
                        have hu3 : tr2 pi4 pd4 := by rw [e3, e4]; exact tr2_jn hq9.1 hq9.2 ht3
                        refine lv_istore (lv' := [(4, .int (nI 1)), (3, .int (nI (mkL (kG K) a n (lsR n 0)))), (2, .int (nI a)), (1, .int (nI (lsR n 0))), (0, .ref m0)]) hx hb dX2_lookForRuns_136 hl (by decide) rfl (fun ls hl => ?_)
                        refine lv_goto (tgt := 127) hx hb dX2_lookForRuns_138 (by decide) ?_
                        exact ih_i 1  me4 mp4 pd4 pi4 (shf st3 (q9 + 1) (pd3 - 1)) (Or.inl rfl) hu1 hu2 hu3 (by omega) (by omega) (by omega) _ _ _ hP hD hS (lv_sub hl [0, 1, 2, 3, 4] rfl)
                exact L_i (_ + 1) 1 me2 mp2 (pd2 + 1) (uN_up pi2 pd2 (mkL (kG K) a n (lsR n 0))) (uN_up st2 pd2 a) (Or.inl rfl) rfl (pC_push hc2 h0 hm9.1) (tr2_push htr) (Nat.le_refl _) (Nat.succ_pos _) (Nat.lt_succ_self _) _ _ _ hP hD hS (lv_sub hl [0, 1, 2, 3, 4] rfl)
  exact L_o (_ + 1) 0 0 0 0 0 0 ln pi (fun _ => 0) (Nat.zero_le _) rfl (fun _ => ⟨rfl, rfl, rfl, rfl, rfl, rfl⟩) ⟨fun i hi => absurd hi (by omega), fun hi => absurd hi (by omega), fun i hi => absurd hi (by omega)⟩ (fun _ => rfl) (fun i hi => absurd hi (by omega)) (Nat.le_refl _) (Nat.zero_le _) (Nat.lt_succ_self _) _ _ _ hP hD hS (lv_sub hl [0, 1, 2] rfl)

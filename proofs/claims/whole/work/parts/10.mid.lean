theorem zMM {r q : Nat} (h : q ≤ r) : nI r - nI 1 - (nI q - nI 1) = nI (r - q) := by
  rw [← pk_sub h]
  grind
theorem zMp {q : Nat} : nI q - nI 1 + nI 1 = nI q := by grind
/-- how long the run is made -/
def mkL (κ : Nat → Int) (a n b : Nat) : Nat := max (fnd κ a n) (min b (n - a))
abbrev rmX1_findRun : Room := { frames := 3, cells := 0, slots := 0, locals := 64 }
set_option maxRecDepth 100000 in
set_option maxHeartbeats 4000000 in
theorem c_X1_findRun (l : Launch) (dC : Nat → ClassId) (dI : Nat → Nat → Nat) (cJ cI : ClassId) (o oP oA oL oR C n ru me gh : Nat) (mp : Int64) (f : Nat → Int64) (a : Nat) (ha : a < n) (hn : n ≤ C) (hC : C ≤ 4096) : CI l yX1_findRun wsX1_findRun rmX1_findRun [.ref o, .int (nI a)] (dC, dI) vwCl (KT cJ cI) [(o, .inr (1, [.ref oP, .int (nI n), .ref oA, .ref oL, .ref oR, .int (nI ru), .int (nI me), .long mp, .int (nI gh)])), (oP, .inl (cJ, C, .inr (.inl f)))] (S := Nat → Int64) (fun r g => r = nI (fnd (kf f) a n) ∧ okp f g a (a + fnd (kf f) a n)) (fun _ => KT cJ cI) (fun g => [(o, .inr (1, [.ref oP, .int (nI n), .ref oA, .ref oL, .ref oR, .int (nI ru), .int (nI me), .long mp, .int (nI gh)])), (oP, .inl (cJ, C, .inr (.inl g)))]) := by
  refine CI.mk (by decide) rfl (Nat.le_of_ble_eq_true rfl) ?_
  intro p e s m args below meth c A Q ls hx hb hml hown hts hA hS hP hD hK hN hl hret
  have hl : lv_has ls 3 [(0, .ref o), (1, .int (nI a))] := hl
  have hcl := cnt_le (P := fl (kf f)) (n - (a + 1)) (a + 1)
  refine lv_aload_n hx hb dX1_findRun_0 rfl (lv_at hl 0 rfl) ?_
  refine lv_iload_n hx hb dX1_findRun_1 rfl (lv_at hl 1 rfl) ?_
  refine call_V_I (As := [.int (nI a)]) (rest := []) (wr := []) ⟨hx, hb, hml, hown, hts⟩ (c_X1_countFalling l dC dI cJ cI o oP oA oL oR C n ru me gh mp f a ha hn hC) (cwV 1 hts gX1_findRun_X1_countFalling rfl rfl rfl (by decide +kernel) ⟨Nat.le_of_ble_eq_true rfl, Nat.le_of_ble_eq_true rfl⟩) hP hD hK hN hS hA [0, 1] [] [0, 1] rfl rfl rfl (by decide) (by decide) (by decide) 0 1 rfl rfl rfl rfl hl.1 rfl (Nat.le_of_ble_eq_true rfl) dX1_findRun_2 (Nat.le_of_ble_eq_true rfl) (Nat.le_of_ble_eq_true rfl) (fun r_2 u_2 H locs hw_2 hP hD hK1 hS => ?_)
  refine W.widen (k := 0) (n := 0) (Nat.le_of_ble_eq_true rfl) (Nat.le_of_ble_eq_true rfl) ?_
  have hP : va_P (dC, dI) vwCl [(o, .inr (1, [.ref oP, .int (nI n), .ref oA, .ref oL, .ref oR, .int (nI ru), .int (nI me), .long mp, .int (nI gh)])), (oP, .inl (cJ, C, .inr (.inl f)))] H := ct_Psub hP [0, 1] rfl
  have hD : va_D A [(o, .inr (1, [.ref oP, .int (nI n), .ref oA, .ref oL, .ref oR, .int (nI ru), .int (nI me), .long mp, .int (nI gh)])), (oP, .inl (cJ, C, .inr (.inl f)))] := hD.sub [0, 1] (by decide) rfl
  refine xr_top (y := nI (1 + cnt (fl (kf f)) (a + 1) (n - (a + 1)))) (hw_2) ?_
  refine lv_istore_n (lv' := [(2, .int (nI (1 + cnt (fl (kf f)) (a + 1) (n - (a + 1))))), (0, .ref o), (1, .int (nI a))]) hx hb dX1_findRun_5 rfl hl (by decide) rfl (fun ls hl => ?_)
  refine lv_iload_n hx hb dX1_findRun_6 rfl (lv_at hl 0 rfl) ?_
  refine lv_iconst (v := nI 1) hx hb dX1_findRun_7 (by decide) ?_
  refine xr_icmp_ne (tgt := 17) hx hb dX1_findRun_8 (by decide) (by omega) (by omega) (fun c_8 => ?_) (fun c_8 => ?_)
  · have e8 : fnd (kf f) a n = 1 + cnt (fl (kf f)) (a + 1) (n - (a + 1)) := by unfold fnd; rw [if_neg (by omega)]
    have e9 := okp_dn (f := f) (a := a) (n := n) (by omega)
    rw [e8] at e9
    refine lv_aload_n hx hb dX1_findRun_17 rfl (lv_at hl 1 rfl) ?_
    refine lv_iload_n hx hb dX1_findRun_18 rfl (lv_at hl 2 rfl) ?_
    refine lv_iload_n hx hb dX1_findRun_19 rfl (lv_at hl 0 rfl) ?_
    refine call_V_V (As := [.int (nI a), .int (nI (1 + cnt (fl (kf f)) (a + 1) (n - (a + 1))))]) (rest := []) (wr := []) ⟨hx, hb, hml, hown, hts⟩ (c_X1_turnRound l dC dI cJ cI o oP oA oL oR C n ru me gh mp f a (1 + cnt (fl (kf f)) (a + 1) (n - (a + 1))) (by omega) hC) (cwV 2 hts gX1_findRun_X1_turnRound rfl rfl rfl (by decide +kernel) ⟨Nat.le_of_ble_eq_true rfl, Nat.le_of_ble_eq_true rfl⟩) hP hD hK hN hS hA [0, 1] [] [0, 1] rfl rfl rfl (by decide) (by decide) (by decide) 0 1 rfl rfl rfl rfl hl.1 rfl (Nat.le_of_ble_eq_true rfl) dX1_findRun_20 (Nat.le_of_ble_eq_true rfl) (Nat.le_of_ble_eq_true rfl) (fun u_20 H locs hw_20 hP hD hK1 hS => ?_)
    refine W.widen (k := 0) (n := 0) (Nat.le_of_ble_eq_true rfl) (Nat.le_of_ble_eq_true rfl) ?_
    have hP : va_P (dC, dI) vwCl [(o, .inr (1, [.ref oP, .int (nI n), .ref oA, .ref oL, .ref oR, .int (nI ru), .int (nI me), .long mp, .int (nI gh)])), (oP, .inl (cJ, C, .inr (.inl (trF f a (1 + cnt (fl (kf f)) (a + 1) (n - (a + 1)))))))] H := ct_Psub hP [0, 1] rfl
    have hD : va_D A [(o, .inr (1, [.ref oP, .int (nI n), .ref oA, .ref oL, .ref oR, .int (nI ru), .int (nI me), .long mp, .int (nI gh)])), (oP, .inl (cJ, C, .inr (.inl (trF f a (1 + cnt (fl (kf f)) (a + 1) (n - (a + 1)))))))] := hD.sub [0, 1] (by decide) rfl
    refine lv_iload_n hx hb dX1_findRun_23 rfl (lv_at hl 0 rfl) ?_
    exact hret (trF f a (1 + cnt (fl (kf f)) (a + 1) (n - (a + 1)))) _ _ _ _ _ _ _ (⟨congrArg nI e8.symm, by rw [e8]; exact e9⟩) hP hK hD hS (Nat.le_of_ble_eq_true rfl) (Nat.le_of_ble_eq_true rfl) (rfl) dX1_findRun_24
  · have e8 : fnd (kf f) a n = 1 + cnt (nfl (kf f)) (a + 1) (n - (a + 1)) := by unfold fnd; rw [if_pos (by omega)]
    refine lv_aload_n hx hb dX1_findRun_11 rfl (lv_at hl 1 rfl) ?_
    refine lv_iload_n hx hb dX1_findRun_12 rfl (lv_at hl 2 rfl) ?_
    refine call_V_I (As := [.int (nI a)]) (rest := []) (wr := []) ⟨hx, hb, hml, hown, hts⟩ (c_X1_countNotFalling l dC dI cJ cI o oP oA oL oR C n ru me gh mp f a ha hn hC) (cwV 1 hts gX1_findRun_X1_countNotFalling rfl rfl rfl (by decide +kernel) ⟨Nat.le_of_ble_eq_true rfl, Nat.le_of_ble_eq_true rfl⟩) hP hD hK hN hS hA [0, 1] [] [0, 1] rfl rfl rfl (by decide) (by decide) (by decide) 0 1 rfl rfl rfl rfl hl.1 rfl (Nat.le_of_ble_eq_true rfl) dX1_findRun_13 (Nat.le_of_ble_eq_true rfl) (Nat.le_of_ble_eq_true rfl) (fun r_13 u_13 H locs hw_13 hP hD hK1 hS => ?_)
    refine W.widen (k := 0) (n := 0) (Nat.le_of_ble_eq_true rfl) (Nat.le_of_ble_eq_true rfl) ?_
    have hP : va_P (dC, dI) vwCl [(o, .inr (1, [.ref oP, .int (nI n), .ref oA, .ref oL, .ref oR, .int (nI ru), .int (nI me), .long mp, .int (nI gh)])), (oP, .inl (cJ, C, .inr (.inl f)))] H := ct_Psub hP [0, 1] rfl
    have hD : va_D A [(o, .inr (1, [.ref oP, .int (nI n), .ref oA, .ref oL, .ref oR, .int (nI ru), .int (nI me), .long mp, .int (nI gh)])), (oP, .inl (cJ, C, .inr (.inl f)))] := hD.sub [0, 1] (by decide) rfl
    refine xr_top (y := nI (1 + cnt (nfl (kf f)) (a + 1) (n - (a + 1)))) (hw_13) ?_
    exact hret f _ _ _ _ _ _ _ (⟨congrArg nI e8.symm, okp_up (by omega)⟩) hP hK hD hS (Nat.le_of_ble_eq_true rfl) (Nat.le_of_ble_eq_true rfl) (rfl) dX1_findRun_16
abbrev rmX1_placeBehindEqualKeys : Room := { frames := 1, cells := 0, slots := 0, locals := 21 }
set_option maxRecDepth 100000 in
set_option maxHeartbeats 4000000 in
theorem c_X1_placeBehindEqualKeys (l : Launch) (dC : Nat → ClassId) (dI : Nat → Nat → Nat) (cJ cI : ClassId) (o oP oA oL oR C n ru me gh : Nat) (mp : Int64) (f : Nat → Int64) (a b : Nat) (key : Int32) (hab : a ≤ b) (hb2 : b ≤ C) (hC : C ≤ 4096) (hs : so ky f a b) : CI l yX1_placeBehindEqualKeys wsX1_placeBehindEqualKeys rmX1_placeBehindEqualKeys [.ref o, .int (nI a), .int (nI b), .int key] (dC, dI) vwCl (KT cJ cI) [(o, .inr (1, [.ref oP, .int (nI n), .ref oA, .ref oL, .ref oR, .int (nI ru), .int (nI me), .long mp, .int (nI gh)])), (oP, .inl (cJ, C, .inr (.inl f)))] (S := Nat) (fun r t => r = nI t ∧ a ≤ t ∧ t ≤ b ∧ (∀ j, a ≤ j → j < t → ky (f j) ≤ key.toInt) ∧ ∀ j, t ≤ j → j < b → key.toInt < ky (f j)) (fun _ => KT cJ cI) (fun _ => [(o, .inr (1, [.ref oP, .int (nI n), .ref oA, .ref oL, .ref oR, .int (nI ru), .int (nI me), .long mp, .int (nI gh)])), (oP, .inl (cJ, C, .inr (.inl f)))]) := by
  refine CI.mk (by decide) rfl (Nat.le_of_ble_eq_true rfl) ?_
  intro p e s m args below meth c A Q ls hx hb hml hown hts hA hS hP hD hK hN hl hret
  have hl : lv_has ls 7 [(0, .ref o), (1, .int (nI a)), (2, .int (nI b)), (3, .int key)] := hl
  have hin_1 : ∀ w ∈ u_ws RX1 TX1 9, w ∈ wsX1_placeBehindEqualKeys := by decide +kernel
  have k_1 := hts (Cond.fieldLink RX1 18 "PairSorter" "pairs" "[J") (by decide +kernel)
  refine lv_iload_n hx hb dX1_placeBehindEqualKeys_0 rfl (lv_at hl 1 rfl) ?_
  refine lv_istore (lv' := [(4, .int (nI a)), (0, .ref o), (1, .int (nI a)), (2, .int (nI b)), (3, .int key)]) hx hb dX1_placeBehindEqualKeys_1 hl (by decide) rfl (fun ls hl => ?_)
  refine lv_iload_n hx hb dX1_placeBehindEqualKeys_3 rfl (lv_at hl 3 rfl) ?_
  refine lv_istore (lv' := [(5, .int (nI b)), (4, .int (nI a)), (0, .ref o), (1, .int (nI a)), (2, .int (nI b)), (3, .int key)]) hx hb dX1_placeBehindEqualKeys_4 hl (by decide) rfl (fun ls hl => ?_)
  have L_b : ∀ (kq : Nat) (lo hi : Nat), (a ≤ lo) → (lo ≤ hi) → (hi ≤ b) → (∀ j, a ≤ j → j < lo → ky (f j) ≤ key.toInt) → (∀ j, hi ≤ j → j < b → key.toInt < ky (f j)) → hi - lo < kq → ∀ (H : Heap) (locs : List Loc) (ls : Array Slot), va_P (dC, dI) vwCl [(o, .inr (1, [.ref oP, .int (nI n), .ref oA, .ref oL, .ref oR, .int (nI ru), .int (nI me), .long mp, .int (nI gh)])), (oP, .inl (cJ, C, .inr (.inl f)))] H → va_D A [(o, .inr (1, [.ref oP, .int (nI n), .ref oA, .ref oL, .ref oR, .int (nI ru), .int (nI me), .long mp, .int (nI gh)])), (oP, .inl (cJ, C, .inr (.inl f)))] → va_S A s.heap H locs → lv_has ls 7 [(4, .int (nI lo)), (5, .int (nI hi)), (0, .ref o), (1, .int (nI a)), (2, .int (nI b)), (3, .int key)] → W p l e rmX1_placeBehindEqualKeys s m args below meth c H locs 0 0 Q (F0 m 6 ls []) := by
    intro kq
    induction kq with
    | zero =>
      intro lo hi h1 h2 h3 hL hH hm
      exact absurd hm (Nat.not_lt_zero _)
    | succ kq ih_b =>
      intro lo hi h1 h2 h3 hL hH hm H locs ls hP hD hS hl
      refine lv_iload hx hb dX1_placeBehindEqualKeys_6 (lv_at hl 0 rfl) ?_
      refine lv_iload hx hb dX1_placeBehindEqualKeys_8 (lv_at hl 1 rfl) ?_
      refine xr_icmp_ge (tgt := 52) hx hb dX1_placeBehindEqualKeys_10 (by decide) (by omega) (by omega) (fun c_10 => ?_) (fun c_10 => ?_)
      · refine lv_iload hx hb dX1_placeBehindEqualKeys_52 (lv_at hl 0 rfl) ?_
        exact hret lo _ _ _ _ _ _ _ (⟨rfl, h1, by omega, hL, fun j g1 g2 => hH j (by omega) g2⟩) hP hK hD hS (Nat.le_of_ble_eq_true rfl) (Nat.le_of_ble_eq_true rfl) (rfl) dX1_placeBehindEqualKeys_54
      · refine lv_iload hx hb dX1_placeBehindEqualKeys_13 (lv_at hl 0 rfl) ?_
        refine lv_iload hx hb dX1_placeBehindEqualKeys_15 (lv_at hl 1 rfl) ?_
        refine xr_iadd hx hb dX1_placeBehindEqualKeys_17 ?_
        refine lv_iconst (v := nI 1) hx hb dX1_placeBehindEqualKeys_18 (by decide) ?_
        refine xr_iushr1 hx hb dX1_placeBehindEqualKeys_19 (by omega) ?_
        refine lv_istore (lv' := [(6, .int (nI ((lo + hi) / 2))), (4, .int (nI lo)), (5, .int (nI hi)), (0, .ref o), (1, .int (nI a)), (2, .int (nI b)), (3, .int key)]) hx hb dX1_placeBehindEqualKeys_20 hl (by decide) rfl (fun ls hl => ?_)
        refine lv_iload_n hx hb dX1_placeBehindEqualKeys_22 rfl (lv_at hl 6 rfl) ?_
        refine lv_aload_n hx hb dX1_placeBehindEqualKeys_23 rfl (lv_at hl 3 rfl) ?_
        refine va_get (D := (dC, dI)) (ci := 1) (v := .ref oP) (C := RX1) (T := TX1) (N := 9) hx hb hts hin_1 hown hK hP 0 rfl rfl 0 (by decide) k_1 (fun _ h9 => h9) rfl dX1_placeBehindEqualKeys_24 ?_
        refine lv_iload hx hb dX1_placeBehindEqualKeys_27 (lv_at hl 0 rfl) ?_
        refine xr_lald hx hb hK hP 1 0 rfl rfl (by omega) (by omega) dX1_placeBehindEqualKeys_29 ?_
        refine call_S_I (As := [.long (f ((lo + hi) / 2))]) (rest := [.int key]) (wr := [(o, .inr (1, [.ref oP, .int (nI n), .ref oA, .ref oL, .ref oR, .int (nI ru), .int (nI me), .long mp, .int (nI gh)])), (oP, .inl (cJ, C, .inr (.inl f)))]) ⟨hx, hb, hml, hown, hts⟩ (c_X1_keyOf l dC dI cJ cI (f ((lo + hi) / 2))) (va_cwS 1 hts gX1_placeBehindEqualKeys_X1_keyOf rfl rfl rfl (by decide +kernel) ⟨Nat.le_of_ble_eq_true rfl, Nat.le_of_ble_eq_true rfl⟩) hP hD hK hN hS hA [] [0, 1] [0, 1] rfl rfl rfl (by decide) (by decide) (by decide) rfl hl.1 rfl (Nat.le_of_ble_eq_true rfl) dX1_placeBehindEqualKeys_30 (Nat.le_of_ble_eq_true rfl) (Nat.le_of_ble_eq_true rfl) (fun r_30 u_30 H locs hw_30 hP hD hK1 hS => ?_)
        refine W.widen (k := 0) (n := 0) (Nat.le_of_ble_eq_true rfl) (Nat.le_of_ble_eq_true rfl) ?_
        have hP : va_P (dC, dI) vwCl [(o, .inr (1, [.ref oP, .int (nI n), .ref oA, .ref oL, .ref oR, .int (nI ru), .int (nI me), .long mp, .int (nI gh)])), (oP, .inl (cJ, C, .inr (.inl f)))] H := ct_Psub hP [0, 1] rfl
        have hD : va_D A [(o, .inr (1, [.ref oP, .int (nI n), .ref oA, .ref oL, .ref oR, .int (nI ru), .int (nI me), .long mp, .int (nI gh)])), (oP, .inl (cJ, C, .inr (.inl f)))] := hD.sub [0, 1] (by decide) rfl
        refine xr_top (y := kyI (f ((lo + hi) / 2))) (hw_30) ?_
        refine lv_icmp_ge (tgt := 43) hx hb dX1_placeBehindEqualKeys_33 (by decide) (fun c_33 => ?_) (fun c_33 => ?_)
        · have hm2 : ky (f ((lo + hi) / 2)) ≤ key.toInt := Int32.le_iff_toInt_le.mp c_33
          have hHn := hH
          have hLn : ∀ j, a ≤ j → j < (lo + hi) / 2 + 1 → ky (f j) ≤ key.toInt := fun j g1 g2 => by
            by_cases hj : j = (lo + hi) / 2
            · rw [hj]; exact hm2
            · exact Int.le_trans (hs j _ g1 (by omega) (by omega)) hm2
          refine lv_iload hx hb dX1_placeBehindEqualKeys_43 (lv_at hl 0 rfl) ?_
          refine lv_iconst (v := nI 1) hx hb dX1_placeBehindEqualKeys_45 (by decide) ?_
          refine xr_iadd hx hb dX1_placeBehindEqualKeys_46 ?_
          refine lv_istore (lv' := [(4, .int (nI ((lo + hi) / 2 + 1))), (6, .int (nI ((lo + hi) / 2))), (5, .int (nI hi)), (0, .ref o), (1, .int (nI a)), (2, .int (nI b)), (3, .int key)]) hx hb dX1_placeBehindEqualKeys_47 hl (by decide) rfl (fun ls hl => ?_)
          refine lv_goto (tgt := 6) hx hb dX1_placeBehindEqualKeys_49 (by decide) ?_
          exact ih_b ((lo + hi) / 2 + 1) (hi) (by omega) (by omega) (by omega) hLn hHn (by omega) _ _ _ hP hD hS (lv_sub hl [0, 2, 3, 4, 5, 6] rfl)
        · have hm2 : key.toInt < ky (f ((lo + hi) / 2)) := Int.not_le.mp (fun q => c_33 (Int32.le_iff_toInt_le.mpr q))
          have hLn := hL
          have hHn : ∀ j, (lo + hi) / 2 ≤ j → j < b → key.toInt < ky (f j) := fun j g1 g2 => by
            by_cases hj : j = (lo + hi) / 2
            · rw [hj]; exact hm2
            · exact Int.lt_of_lt_of_le hm2 (hs _ j (by omega) (by omega) g2)
          refine lv_iload hx hb dX1_placeBehindEqualKeys_36 (lv_at hl 0 rfl) ?_
          refine lv_istore (lv' := [(5, .int (nI ((lo + hi) / 2))), (6, .int (nI ((lo + hi) / 2))), (4, .int (nI lo)), (0, .ref o), (1, .int (nI a)), (2, .int (nI b)), (3, .int key)]) hx hb dX1_placeBehindEqualKeys_38 hl (by decide) rfl (fun ls hl => ?_)
          refine lv_goto (tgt := 49) hx hb dX1_placeBehindEqualKeys_40 (by decide) ?_
          refine lv_goto (tgt := 6) hx hb dX1_placeBehindEqualKeys_49 (by decide) ?_
          exact ih_b (lo) ((lo + hi) / 2) (by omega) (by omega) (by omega) hLn hHn (by omega) _ _ _ hP hD hS (lv_sub hl [2, 0, 3, 4, 5, 6] rfl)
  exact L_b (_ + 1) a b (by omega) (by omega) (by omega) (fun j g1 g2 => absurd g2 (by omega)) (fun j g1 g2 => absurd g2 (by omega)) (Nat.lt_succ_self _) _ _ _ hP hD hS (lv_sub hl [1, 0, 2, 3, 4, 5] rfl)
abbrev rmX1_insert : Room := { frames := 2, cells := 0, slots := 0, locals := 47 }
set_option maxRecDepth 100000 in
set_option maxHeartbeats 4000000 in
theorem c_X1_insert (l : Launch) (dC : Nat → ClassId) (dI : Nat → Nat → Nat) (cJ cI : ClassId) (o oP oA oL oR C n ru me gh : Nat) (mp : Int64) (f : Nat → Int64) (a q : Nat) (hab : a ≤ q) (hb2 : q < C) (hC : C ≤ 4096) (hs : so ky f a q) : CV l yX1_insert wsX1_insert rmX1_insert [.ref o, .int (nI a), .int (nI q)] (dC, dI) vwCl (KT cJ cI) [(o, .inr (1, [.ref oP, .int (nI n), .ref oA, .ref oL, .ref oR, .int (nI ru), .int (nI me), .long mp, .int (nI gh)])), (oP, .inl (cJ, C, .inr (.inl f)))] (S := Nat → Int64) (fun g => okp f g a (q + 1)) (fun _ => KT cJ cI) (fun g => [(o, .inr (1, [.ref oP, .int (nI n), .ref oA, .ref oL, .ref oR, .int (nI ru), .int (nI me), .long mp, .int (nI gh)])), (oP, .inl (cJ, C, .inr (.inl g)))]) := by
  refine CV.mk (by decide) rfl (Nat.le_of_ble_eq_true rfl) ?_
  intro p e s m args below meth c A Q ls hx hb hml hown hts hin hA hS hP hD hK hN hl hret
  have hl : lv_has ls 6 [(0, .ref o), (1, .int (nI a)), (2, .int (nI q))] := hl
  have hin_1 : ∀ w ∈ u_ws RX1 TX1 9, w ∈ wsX1_insert := by decide +kernel
  have k_1 := hts (Cond.fieldLink RX1 18 "PairSorter" "pairs" "[J") (by decide +kernel)
  have k_2 := hts (Cond.methodLink RX1 123 arraycopyName) (by decide +kernel)
  have k_3 := hts (Cond.native arraycopyName) (by decide +kernel)
  have k_4 := hts (Cond.static arraycopyName) (by decide +kernel)
  have k_5 := hts (Cond.initialized "java/lang/System") (by decide +kernel)
  refine lv_aload_n hx hb dX1_insert_0 rfl (lv_at hl 0 rfl) ?_
  refine va_get (D := (dC, dI)) (ci := 1) (v := .ref oP) (C := RX1) (T := TX1) (N := 9) hx hb hts hin_1 hown hK hP 0 rfl rfl 0 (by decide) k_1 (fun _ h9 => h9) rfl dX1_insert_1 ?_
  refine lv_iload_n hx hb dX1_insert_4 rfl (lv_at hl 2 rfl) ?_
  refine xr_lald hx hb hK hP 1 0 rfl rfl (by omega) (by omega) dX1_insert_5 ?_
  refine lv_lstore_n (lv' := [(3, .long (f q)), (0, .ref o), (1, .int (nI a)), (2, .int (nI q))]) hx hb dX1_insert_6 rfl hl (by decide) rfl (fun ls hl => ?_)
  refine lv_aload_n hx hb dX1_insert_7 rfl (lv_at hl 1 rfl) ?_
  refine lv_iload_n hx hb dX1_insert_8 rfl (lv_at hl 2 rfl) ?_
  refine lv_iload_n hx hb dX1_insert_9 rfl (lv_at hl 3 rfl) ?_
  refine lv_lload_n hx hb dX1_insert_10 rfl (lv_at hl 0 rfl) ?_
  refine call_S_I (As := [.long (f q)]) (rest := [.int (nI q), .int (nI a), .ref o]) (wr := [(o, .inr (1, [.ref oP, .int (nI n), .ref oA, .ref oL, .ref oR, .int (nI ru), .int (nI me), .long mp, .int (nI gh)])), (oP, .inl (cJ, C, .inr (.inl f)))]) ⟨hx, hb, hml, hown, hts⟩ (c_X1_keyOf l dC dI cJ cI (f q)) (va_cwS 1 hts gX1_insert_X1_keyOf rfl rfl rfl (by decide +kernel) ⟨Nat.le_of_ble_eq_true rfl, Nat.le_of_ble_eq_true rfl⟩) hP hD hK hN hS hA [] [0, 1] [0, 1] rfl rfl rfl (by decide) (by decide) (by decide) rfl hl.1 rfl (Nat.le_of_ble_eq_true rfl) dX1_insert_11 (Nat.le_of_ble_eq_true rfl) (Nat.le_of_ble_eq_true rfl) (fun r_11 u_11 H locs hw_11 hP hD hK1 hS => ?_)
  refine W.widen (k := 0) (n := 0) (Nat.le_of_ble_eq_true rfl) (Nat.le_of_ble_eq_true rfl) ?_
  have hP : va_P (dC, dI) vwCl [(o, .inr (1, [.ref oP, .int (nI n), .ref oA, .ref oL, .ref oR, .int (nI ru), .int (nI me), .long mp, .int (nI gh)])), (oP, .inl (cJ, C, .inr (.inl f)))] H := ct_Psub hP [0, 1] rfl
  have hD : va_D A [(o, .inr (1, [.ref oP, .int (nI n), .ref oA, .ref oL, .ref oR, .int (nI ru), .int (nI me), .long mp, .int (nI gh)])), (oP, .inl (cJ, C, .inr (.inl f)))] := hD.sub [0, 1] (by decide) rfl
  refine xr_top (y := kyI (f q)) (hw_11) ?_
  refine call_V_I (As := [.int (nI a), .int (nI q), .int (kyI (f q))]) (rest := []) (wr := []) ⟨hx, hb, hml, hown, hts⟩ (c_X1_placeBehindEqualKeys l dC dI cJ cI o oP oA oL oR C n ru me gh mp f a q (kyI (f q)) hab (by omega) hC hs) (cwV 3 hts gX1_insert_X1_placeBehindEqualKeys rfl rfl rfl (by decide +kernel) ⟨Nat.le_of_ble_eq_true rfl, Nat.le_of_ble_eq_true rfl⟩) hP hD hK hN hS hA [0, 1] [] [0, 1] rfl rfl rfl (by decide) (by decide) (by decide) 0 1 rfl rfl rfl rfl hl.1 rfl (Nat.le_of_ble_eq_true rfl) dX1_insert_14 (Nat.le_of_ble_eq_true rfl) (Nat.le_of_ble_eq_true rfl) (fun r_14 u_14 H locs hw_14 hP hD hK1 hS => ?_)
  refine W.widen (k := 0) (n := 0) (Nat.le_of_ble_eq_true rfl) (Nat.le_of_ble_eq_true rfl) ?_
  obtain ⟨hr14, g1, g2, g3, g4⟩ := hw_14
  have hP : va_P (dC, dI) vwCl [(o, .inr (1, [.ref oP, .int (nI n), .ref oA, .ref oL, .ref oR, .int (nI ru), .int (nI me), .long mp, .int (nI gh)])), (oP, .inl (cJ, C, .inr (.inl f)))] H := ct_Psub hP [0, 1] rfl
  have hD : va_D A [(o, .inr (1, [.ref oP, .int (nI n), .ref oA, .ref oL, .ref oR, .int (nI ru), .int (nI me), .long mp, .int (nI gh)])), (oP, .inl (cJ, C, .inr (.inl f)))] := hD.sub [0, 1] (by decide) rfl
  refine xr_top (y := nI u_14) (hr14) ?_
  refine lv_istore (lv' := [(5, .int (nI u_14)), (3, .long (f q)), (0, .ref o), (1, .int (nI a)), (2, .int (nI q))]) hx hb dX1_insert_17 hl (by decide) rfl (fun ls hl => ?_)
  refine lv_aload_n hx hb dX1_insert_19 rfl (lv_at hl 2 rfl) ?_
  refine va_get (D := (dC, dI)) (ci := 1) (v := .ref oP) (C := RX1) (T := TX1) (N := 9) hx hb hts hin_1 hown hK hP 0 rfl rfl 0 (by decide) k_1 (fun _ h9 => h9) rfl dX1_insert_20 ?_
  refine lv_iload hx hb dX1_insert_23 (lv_at hl 0 rfl) ?_
  refine lv_aload_n hx hb dX1_insert_25 rfl (lv_at hl 2 rfl) ?_
  refine va_get (D := (dC, dI)) (ci := 1) (v := .ref oP) (C := RX1) (T := TX1) (N := 9) hx hb hts hin_1 hown hK hP 0 rfl rfl 0 (by decide) k_1 (fun _ h9 => h9) rfl dX1_insert_26 ?_
  refine lv_iload hx hb dX1_insert_29 (lv_at hl 0 rfl) ?_
  refine lv_iconst (v := nI 1) hx hb dX1_insert_31 (by decide) ?_
  refine xr_iadd hx hb dX1_insert_32 ?_
  refine lv_iload_n hx hb dX1_insert_33 rfl (lv_at hl 4 rfl) ?_
  refine lv_iload hx hb dX1_insert_34 (lv_at hl 0 rfl) ?_
  refine xr_isub hx hb dX1_insert_36 (by omega) ?_
  refine xr_copyl hx hb (hml.trans hl.1.symm) hown k_2 k_3 k_4 k_5 hK hP hD hS 1 1 0 0 rfl rfl rfl rfl (by omega) (by omega) (by omega) (by omega) (Nat.le_of_ble_eq_true rfl) (by decide) dX1_insert_37 (fun H locs hP hD hS => ?_)
  have hP : va_P (dC, dI) vwCl [(o, .inr (1, [.ref oP, .int (nI n), .ref oA, .ref oL, .ref oR, .int (nI ru), .int (nI me), .long mp, .int (nI gh)])), (oP, .inl (cJ, C, .inr (.inl (va_cpy f f u_14 (u_14 + 1) (q - u_14)))))] H := hP
  have hD : va_D A [(o, .inr (1, [.ref oP, .int (nI n), .ref oA, .ref oL, .ref oR, .int (nI ru), .int (nI me), .long mp, .int (nI gh)])), (oP, .inl (cJ, C, .inr (.inl (va_cpy f f u_14 (u_14 + 1) (q - u_14)))))] := hD
  refine lv_aload_n hx hb dX1_insert_40 rfl (lv_at hl 2 rfl) ?_
  refine va_get (D := (dC, dI)) (ci := 1) (v := .ref oP) (C := RX1) (T := TX1) (N := 9) hx hb hts hin_1 hown hK hP 0 rfl rfl 0 (by decide) k_1 (fun _ h9 => h9) rfl dX1_insert_41 ?_
  refine lv_iload hx hb dX1_insert_44 (lv_at hl 0 rfl) ?_
  refine lv_lload_n hx hb dX1_insert_46 rfl (lv_at hl 1 rfl) ?_
  refine xr_last hx hb hK hP hD hS 1 0 rfl rfl (by omega) (by omega) dX1_insert_47 (fun H locs hP hD hS => ?_)
  have hP : va_P (dC, dI) vwCl [(o, .inr (1, [.ref oP, .int (nI n), .ref oA, .ref oL, .ref oR, .int (nI ru), .int (nI me), .long mp, .int (nI gh)])), (oP, .inl (cJ, C, .inr (.inl (uN_up (va_cpy f f u_14 (u_14 + 1) (q - u_14)) u_14 (f q)))))] H := hP
  have hD : va_D A [(o, .inr (1, [.ref oP, .int (nI n), .ref oA, .ref oL, .ref oR, .int (nI ru), .int (nI me), .long mp, .int (nI gh)])), (oP, .inl (cJ, C, .inr (.inl (uN_up (va_cpy f f u_14 (u_14 + 1) (q - u_14)) u_14 (f q)))))] := hD
  exact hret _ _ _ _ _ _ _ (okp_ins g1 g2 hs g3 g4) hP hK hD hS (Nat.le_of_ble_eq_true rfl) (Nat.le_of_ble_eq_true rfl) dX1_insert_48
abbrev rmX1_makeRun : Room := { frames := 4, cells := 0, slots := 0, locals := 86 }
set_option maxRecDepth 100000 in
set_option maxHeartbeats 4000000 in
theorem c_X1_makeRun (l : Launch) (dC : Nat → ClassId) (dI : Nat → Nat → Nat) (cJ cI : ClassId) (o oP oA oL oR C n ru me gh : Nat) (mp : Int64) (f : Nat → Int64) (a b : Nat) (ha : a < n) (hn : n ≤ C) (hC : C ≤ 4096) (hb2 : b ≤ 4096) : CI l yX1_makeRun wsX1_makeRun rmX1_makeRun [.ref o, .int (nI a), .int (nI b)] (dC, dI) vwCl (KT cJ cI) [(o, .inr (1, [.ref oP, .int (nI n), .ref oA, .ref oL, .ref oR, .int (nI ru), .int (nI me), .long mp, .int (nI gh)])), (oP, .inl (cJ, C, .inr (.inl f)))] (S := Nat → Int64) (fun r g => r = nI (mkL (kf f) a n b) ∧ okp f g a (a + mkL (kf f) a n b)) (fun _ => KT cJ cI) (fun g => [(o, .inr (1, [.ref oP, .int (nI n), .ref oA, .ref oL, .ref oR, .int (nI ru), .int (nI me), .long mp, .int (nI gh)])), (oP, .inl (cJ, C, .inr (.inl g)))]) := by
  refine CI.mk (by decide) rfl (Nat.le_of_ble_eq_true rfl) ?_
  intro p e s m args below meth c A Q ls hx hb hml hown hts hA hS hP hD hK hN hl hret
  have hl : lv_has ls 6 [(0, .ref o), (1, .int (nI a)), (2, .int (nI b))] := hl
  have hin_1 : ∀ w ∈ u_ws RX1 TX1 9, w ∈ wsX1_makeRun := by decide +kernel
  have k_1 := hts (Cond.fieldLink RX1 38 "PairSorter" "size" "I") (by decide +kernel)
  have k_2 := hts (Cond.methodLink RX1 9 Lib.Math.min.name) (by decide +kernel)
  have k_3 := hts (Cond.static Lib.Math.min.name) (by decide +kernel)
  have k_4 := hts (Cond.initialized "java/lang/Math") (by decide +kernel)
  have k_5 := hts (Cond.code Lib.Math.min.name Lib.Math.min.code 2 (some .int)) (by decide +kernel)
  have k_6 := hts (Cond.methodLink RX1 15 Lib.Math.max.name) (by decide +kernel)
  have k_7 := hts (Cond.static Lib.Math.max.name) (by decide +kernel)
  have k_8 := hts (Cond.code Lib.Math.max.name Lib.Math.max.code 2 (some .int)) (by decide +kernel)
  have hfi := fnd_in (kf f) ha
  refine lv_aload_n hx hb dX1_makeRun_0 rfl (lv_at hl 0 rfl) ?_
  refine lv_iload_n hx hb dX1_makeRun_1 rfl (lv_at hl 1 rfl) ?_
  refine call_V_I (As := [.int (nI a)]) (rest := []) (wr := []) ⟨hx, hb, hml, hown, hts⟩ (c_X1_findRun l dC dI cJ cI o oP oA oL oR C n ru me gh mp f a ha hn hC) (cwV 1 hts gX1_makeRun_X1_findRun rfl rfl rfl (by decide +kernel) ⟨Nat.le_of_ble_eq_true rfl, Nat.le_of_ble_eq_true rfl⟩) hP hD hK hN hS hA [0, 1] [] [0, 1] rfl rfl rfl (by decide) (by decide) (by decide) 0 1 rfl rfl rfl rfl hl.1 rfl (Nat.le_of_ble_eq_true rfl) dX1_makeRun_2 (Nat.le_of_ble_eq_true rfl) (Nat.le_of_ble_eq_true rfl) (fun r_2 u_2 H locs hw_2 hP hD hK1 hS => ?_)
  refine W.widen (k := 0) (n := 0) (Nat.le_of_ble_eq_true rfl) (Nat.le_of_ble_eq_true rfl) ?_
  obtain ⟨hr2, ho2⟩ := hw_2
  have hP : va_P (dC, dI) vwCl [(o, .inr (1, [.ref oP, .int (nI n), .ref oA, .ref oL, .ref oR, .int (nI ru), .int (nI me), .long mp, .int (nI gh)])), (oP, .inl (cJ, C, .inr (.inl u_2)))] H := ct_Psub hP [0, 1] rfl
  have hD : va_D A [(o, .inr (1, [.ref oP, .int (nI n), .ref oA, .ref oL, .ref oR, .int (nI ru), .int (nI me), .long mp, .int (nI gh)])), (oP, .inl (cJ, C, .inr (.inl u_2)))] := hD.sub [0, 1] (by decide) rfl
  refine xr_top (y := nI (fnd (kf f) a n)) (hr2) ?_
  refine lv_istore_n (lv' := [(3, .int (nI (fnd (kf f) a n))), (0, .ref o), (1, .int (nI a)), (2, .int (nI b))]) hx hb dX1_makeRun_5 rfl hl (by decide) rfl (fun ls hl => ?_)
  refine lv_iload_n hx hb dX1_makeRun_6 rfl (lv_at hl 0 rfl) ?_
  refine lv_iload_n hx hb dX1_makeRun_7 rfl (lv_at hl 3 rfl) ?_
  refine lv_aload_n hx hb dX1_makeRun_8 rfl (lv_at hl 1 rfl) ?_
  refine va_get (D := (dC, dI)) (ci := 1) (v := .int (nI n)) (C := RX1) (T := TX1) (N := 9) hx hb hts hin_1 hown hK hP 0 rfl rfl 1 (by decide) k_1 (fun _ h9 => h9) rfl dX1_makeRun_9 ?_
  refine lv_iload_n hx hb dX1_makeRun_12 rfl (lv_at hl 2 rfl) ?_
  refine xr_isub hx hb dX1_makeRun_13 (by omega) ?_
  refine xr_mmin hx hb (hml.trans hl.1.symm) hown k_2 k_3 k_4 k_5 (Nat.le_of_ble_eq_true rfl) (Nat.le_of_ble_eq_true rfl) (Nat.le_of_ble_eq_true rfl) (Nat.le_of_ble_eq_true rfl) (by omega) (by omega) dX1_makeRun_14 ?_
  refine xr_mmax hx hb (hml.trans hl.1.symm) hown k_6 k_7 k_4 k_8 (Nat.le_of_ble_eq_true rfl) (Nat.le_of_ble_eq_true rfl) (Nat.le_of_ble_eq_true rfl) (Nat.le_of_ble_eq_true rfl) (by omega) (by omega) dX1_makeRun_17 ?_
  refine lv_istore (lv' := [(4, .int (nI (max (fnd (kf f) a n) (min b (n - a))))), (3, .int (nI (fnd (kf f) a n))), (0, .ref o), (1, .int (nI a)), (2, .int (nI b))]) hx hb dX1_makeRun_20 hl (by decide) rfl (fun ls hl => ?_)
  refine lv_iload_n hx hb dX1_makeRun_22 rfl (lv_at hl 3 rfl) ?_
  refine lv_iload_n hx hb dX1_makeRun_23 rfl (lv_at hl 1 rfl) ?_
  refine xr_iadd hx hb dX1_makeRun_24 ?_
  refine lv_istore (lv' := [(5, .int (nI (a + (fnd (kf f) a n)))), (4, .int (nI (max (fnd (kf f) a n) (min b (n - a))))), (3, .int (nI (fnd (kf f) a n))), (0, .ref o), (1, .int (nI a)), (2, .int (nI b))]) hx hb dX1_makeRun_25 hl (by decide) rfl (fun ls hl => ?_)
  have L_m : ∀ (kq : Nat) (i : Nat) (g : Nat → Int64), (a + fnd (kf f) a n ≤ i) → (i ≤ a + max (fnd (kf f) a n) (min b (n - a))) → (okp f g a i) → a + max (fnd (kf f) a n) (min b (n - a)) - i < kq → ∀ (H : Heap) (locs : List Loc) (ls : Array Slot), va_P (dC, dI) vwCl [(o, .inr (1, [.ref oP, .int (nI n), .ref oA, .ref oL, .ref oR, .int (nI ru), .int (nI me), .long mp, .int (nI gh)])), (oP, .inl (cJ, C, .inr (.inl g)))] H → va_D A [(o, .inr (1, [.ref oP, .int (nI n), .ref oA, .ref oL, .ref oR, .int (nI ru), .int (nI me), .long mp, .int (nI gh)])), (oP, .inl (cJ, C, .inr (.inl g)))] → va_S A s.heap H locs → lv_has ls 6 [(5, .int (nI i)), (0, .ref o), (1, .int (nI a)), (2, .int (nI b)), (3, .int (nI (fnd (kf f) a n))), (4, .int (nI (max (fnd (kf f) a n) (min b (n - a)))))] → W p l e rmX1_makeRun s m args below meth c H locs 0 0 Q (F0 m 27 ls []) := by
    intro kq
    induction kq with
    | zero =>
      intro i g h1 h2 h3 hm
      exact absurd hm (Nat.not_lt_zero _)
    | succ kq ih_m =>
      intro i g h1 h2 h3 hm H locs ls hP hD hS hl
      refine lv_iload hx hb dX1_makeRun_27 (lv_at hl 0 rfl) ?_
      refine lv_iload_n hx hb dX1_makeRun_29 rfl (lv_at hl 2 rfl) ?_
      refine lv_iload hx hb dX1_makeRun_30 (lv_at hl 5 rfl) ?_
      refine xr_iadd hx hb dX1_makeRun_32 ?_
      refine xr_icmp_ge (tgt := 49) hx hb dX1_makeRun_33 (by decide) (by omega) (by omega) (fun c_33 => ?_) (fun c_33 => ?_)
      · have hi : i = a + mkL (kf f) a n b := by unfold mkL; omega
        refine lv_iload hx hb dX1_makeRun_49 (lv_at hl 5 rfl) ?_
        exact hret g _ _ _ _ _ _ _ (⟨rfl, hi ▸ h3⟩) hP hK hD hS (Nat.le_of_ble_eq_true rfl) (Nat.le_of_ble_eq_true rfl) (rfl) dX1_makeRun_51
      · refine lv_aload_n hx hb dX1_makeRun_36 rfl (lv_at hl 1 rfl) ?_
        refine lv_iload_n hx hb dX1_makeRun_37 rfl (lv_at hl 2 rfl) ?_
        refine lv_iload hx hb dX1_makeRun_38 (lv_at hl 0 rfl) ?_
        refine call_V_V (As := [.int (nI a), .int (nI i)]) (rest := []) (wr := []) ⟨hx, hb, hml, hown, hts⟩ (c_X1_insert l dC dI cJ cI o oP oA oL oR C n ru me gh mp g a i (by omega) (by omega) hC h3.2.1) (cwV 2 hts gX1_makeRun_X1_insert rfl rfl rfl (by decide +kernel) ⟨Nat.le_of_ble_eq_true rfl, Nat.le_of_ble_eq_true rfl⟩) hP hD hK hN hS hA [0, 1] [] [0, 1] rfl rfl rfl (by decide) (by decide) (by decide) 0 1 rfl rfl rfl rfl hl.1 rfl (Nat.le_of_ble_eq_true rfl) dX1_makeRun_40 (Nat.le_of_ble_eq_true rfl) (Nat.le_of_ble_eq_true rfl) (fun u_40 H locs hw_40 hP hD hK1 hS => ?_)
        refine W.widen (k := 0) (n := 0) (Nat.le_of_ble_eq_true rfl) (Nat.le_of_ble_eq_true rfl) ?_
        have hP : va_P (dC, dI) vwCl [(o, .inr (1, [.ref oP, .int (nI n), .ref oA, .ref oL, .ref oR, .int (nI ru), .int (nI me), .long mp, .int (nI gh)])), (oP, .inl (cJ, C, .inr (.inl u_40)))] H := ct_Psub hP [0, 1] rfl
        have hD : va_D A [(o, .inr (1, [.ref oP, .int (nI n), .ref oA, .ref oL, .ref oR, .int (nI ru), .int (nI me), .long mp, .int (nI gh)])), (oP, .inl (cJ, C, .inr (.inl u_40)))] := hD.sub [0, 1] (by decide) rfl
        refine lv_iinc (v := nI (i + 1)) (lv' := [(5, .int (nI (i + 1))), (0, .ref o), (1, .int (nI a)), (2, .int (nI b)), (3, .int (nI (fnd (kf f) a n))), (4, .int (nI (max (fnd (kf f) a n) (min b (n - a)))))]) hx hb dX1_makeRun_43 hl (k := 0) rfl (nI_add i 1) (by decide) rfl (fun ls hl => ?_)
        refine lv_goto (tgt := 27) hx hb dX1_makeRun_46 (by decide) ?_
        exact ih_m (i + 1) u_40 (by omega) (by omega) (okp_trans (by omega) (by omega) h3 hw_40) (by omega) _ _ _ hP hD hS (lv_sub hl [0, 1, 2, 3, 4, 5] rfl)
  exact L_m (_ + 1) (a + fnd (kf f) a n) u_2 (by omega) (by omega) ho2 (Nat.lt_succ_self _) _ _ _ hP hD hS (lv_sub hl [0, 3, 4, 5, 2, 1] rfl)
abbrev rmX1_mergeForward : Room := { frames := 1, cells := 0, slots := 0, locals := 28 }
set_option maxRecDepth 100000 in
set_option maxHeartbeats 4000000 in
theorem c_X1_mergeForward (l : Launch) (dC : Nat → ClassId) (dI : Nat → Nat → Nat) (cJ cI : ClassId) (o oP oA oL oR C n ru me gh : Nat) (mp : Int64) (f : Nat → Int64) (g : Nat → Int64) (a mid b : Nat) (h1 : a ≤ mid) (h2 : mid ≤ b) (h3 : b ≤ C) (hC : C ≤ 4096) (h4 : mid - a ≤ C / 2) (hs1 : so ky f a mid) (hs2 : so ky f mid b) : CV l yX1_mergeForward wsX1_mergeForward rmX1_mergeForward [.ref o, .int (nI a), .int (nI mid), .int (nI b)] (dC, dI) vwCl (KT cJ cI) [(o, .inr (1, [.ref oP, .int (nI n), .ref oA, .ref oL, .ref oR, .int (nI ru), .int (nI me), .long mp, .int (nI gh)])), (oP, .inl (cJ, C, .inr (.inl f))), (oA, .inl (cJ, (C / 2), .inr (.inl g)))] (S := (Nat → Int64) × (Nat → Int64)) (fun u => okp f u.1 a b) (fun _ => KT cJ cI) (fun u => [(o, .inr (1, [.ref oP, .int (nI n), .ref oA, .ref oL, .ref oR, .int (nI ru), .int (nI me), .long mp, .int (nI gh)])), (oP, .inl (cJ, C, .inr (.inl u.1))), (oA, .inl (cJ, (C / 2), .inr (.inl u.2)))]) := by
  refine CV.mk (by decide) rfl (Nat.le_of_ble_eq_true rfl) ?_
  intro p e s m args below meth c A Q ls hx hb hml hown hts hin hA hS hP hD hK hN hl hret
  have hl : lv_has ls 8 [(0, .ref o), (1, .int (nI a)), (2, .int (nI mid)), (3, .int (nI b))] := hl
  have hin_1 : ∀ w ∈ u_ws RX1 TX1 9, w ∈ wsX1_mergeForward := by decide +kernel
  have k_1 := hts (Cond.fieldLink RX1 18 "PairSorter" "pairs" "[J") (by decide +kernel)
  have k_2 := hts (Cond.fieldLink RX1 22 "PairSorter" "aside" "[J") (by decide +kernel)
  have k_3 := hts (Cond.methodLink RX1 123 arraycopyName) (by decide +kernel)
  have k_4 := hts (Cond.native arraycopyName) (by decide +kernel)
  have k_5 := hts (Cond.static arraycopyName) (by decide +kernel)
  have k_6 := hts (Cond.initialized "java/lang/System") (by decide +kernel)
  refine lv_iload_n hx hb dX1_mergeForward_0 rfl (lv_at hl 2 rfl) ?_
  refine lv_iload_n hx hb dX1_mergeForward_1 rfl (lv_at hl 1 rfl) ?_
  refine xr_isub hx hb dX1_mergeForward_2 (by omega) ?_
  refine lv_istore (lv' := [(4, .int (nI (mid - a))), (0, .ref o), (1, .int (nI a)), (2, .int (nI mid)), (3, .int (nI b))]) hx hb dX1_mergeForward_3 hl (by decide) rfl (fun ls hl => ?_)
  refine lv_aload_n hx hb dX1_mergeForward_5 rfl (lv_at hl 1 rfl) ?_
  refine va_get (D := (dC, dI)) (ci := 1) (v := .ref oP) (C := RX1) (T := TX1) (N := 9) hx hb hts hin_1 hown hK hP 0 rfl rfl 0 (by decide) k_1 (fun _ h9 => h9) rfl dX1_mergeForward_6 ?_
  refine lv_iload_n hx hb dX1_mergeForward_9 rfl (lv_at hl 2 rfl) ?_
  refine lv_aload_n hx hb dX1_mergeForward_10 rfl (lv_at hl 1 rfl) ?_
  refine va_get (D := (dC, dI)) (ci := 1) (v := .ref oA) (C := RX1) (T := TX1) (N := 9) hx hb hts hin_1 hown hK hP 0 rfl rfl 2 (by decide) k_2 (fun _ h9 => h9) rfl dX1_mergeForward_11 ?_
  refine lv_iconst (v := nI 0) hx hb dX1_mergeForward_14 (by decide) ?_
  refine lv_iload hx hb dX1_mergeForward_15 (lv_at hl 0 rfl) ?_
  refine xr_copyl hx hb (hml.trans hl.1.symm) hown k_3 k_4 k_5 k_6 hK hP hD hS 1 2 0 0 rfl rfl rfl rfl (by omega) (by omega) (by omega) (by omega) (Nat.le_of_ble_eq_true rfl) (by decide) dX1_mergeForward_17 (fun H locs hP hD hS => ?_)
  have hP : va_P (dC, dI) vwCl [(o, .inr (1, [.ref oP, .int (nI n), .ref oA, .ref oL, .ref oR, .int (nI ru), .int (nI me), .long mp, .int (nI gh)])), (oP, .inl (cJ, C, .inr (.inl f))), (oA, .inl (cJ, (C / 2), .inr (.inl (va_cpy f g a 0 (mid - a)))))] H := hP
  have hD : va_D A [(o, .inr (1, [.ref oP, .int (nI n), .ref oA, .ref oL, .ref oR, .int (nI ru), .int (nI me), .long mp, .int (nI gh)])), (oP, .inl (cJ, C, .inr (.inl f))), (oA, .inl (cJ, (C / 2), .inr (.inl (va_cpy f g a 0 (mid - a)))))] := hD
  refine lv_iconst (v := nI 0) hx hb dX1_mergeForward_20 (by decide) ?_
  refine lv_istore (lv' := [(5, .int (nI 0)), (4, .int (nI (mid - a))), (0, .ref o), (1, .int (nI a)), (2, .int (nI mid)), (3, .int (nI b))]) hx hb dX1_mergeForward_21 hl (by decide) rfl (fun ls hl => ?_)
  refine lv_iload_n hx hb dX1_mergeForward_23 rfl (lv_at hl 4 rfl) ?_
  refine lv_istore (lv' := [(6, .int (nI mid)), (5, .int (nI 0)), (4, .int (nI (mid - a))), (0, .ref o), (1, .int (nI a)), (2, .int (nI mid)), (3, .int (nI b))]) hx hb dX1_mergeForward_24 hl (by decide) rfl (fun ls hl => ?_)
  refine lv_iload_n hx hb dX1_mergeForward_26 rfl (lv_at hl 4 rfl) ?_
  refine lv_istore (lv' := [(7, .int (nI a)), (6, .int (nI mid)), (5, .int (nI 0)), (4, .int (nI (mid - a))), (0, .ref o), (1, .int (nI a)), (2, .int (nI mid)), (3, .int (nI b))]) hx hb dX1_mergeForward_27 hl (by decide) rfl (fun ls hl => ?_)
  have L_f : ∀ (kq : Nat) (P : Nat → Int64) (i s1 t : Nat), (mfI ky f (va_cpy f g a 0 (mid - a)) P a mid b i s1 t) → (mid - a - i) + (b - s1) < kq → ∀ (H : Heap) (locs : List Loc) (ls : Array Slot), va_P (dC, dI) vwCl [(o, .inr (1, [.ref oP, .int (nI n), .ref oA, .ref oL, .ref oR, .int (nI ru), .int (nI me), .long mp, .int (nI gh)])), (oP, .inl (cJ, C, .inr (.inl P))), (oA, .inl (cJ, (C / 2), .inr (.inl (va_cpy f g a 0 (mid - a)))))] H → va_D A [(o, .inr (1, [.ref oP, .int (nI n), .ref oA, .ref oL, .ref oR, .int (nI ru), .int (nI me), .long mp, .int (nI gh)])), (oP, .inl (cJ, C, .inr (.inl P))), (oA, .inl (cJ, (C / 2), .inr (.inl (va_cpy f g a 0 (mid - a)))))] → va_S A s.heap H locs → lv_has ls 8 [(5, .int (nI i)), (6, .int (nI s1)), (7, .int (nI t)), (4, .int (nI (mid - a))), (0, .ref o), (1, .int (nI a)), (2, .int (nI mid)), (3, .int (nI b))] → W p l e rmX1_mergeForward s m args below meth c H locs 0 0 Q (F0 m 29 ls []) := by
    intro kq
    induction kq with
    | zero =>
      intro P i s1 t hI hm
      exact absurd hm (Nat.not_lt_zero _)
    | succ kq ih_f =>
      intro P i s1 t hI hm H locs ls hP hD hS hl
      obtain ⟨i1, i2, i3, i4, i5, i6⟩ := id hI.1
      have hPs : P s1 = f s1 := hI.2.2.1 s1 (Nat.le_refl _)
      refine lv_iload hx hb dX1_mergeForward_29 (lv_at hl 0 rfl) ?_
      refine lv_iload hx hb dX1_mergeForward_31 (lv_at hl 3 rfl) ?_
      refine xr_icmp_ge (tgt := 108) hx hb dX1_mergeForward_33 (by decide) (by omega) (by omega) (fun c_33 => ?_) (fun c_33 => ?_)
      · have hfs : i = mid - a ∨ s1 = b := Or.inl (by omega)
        refine lv_aload_n hx hb dX1_mergeForward_108 rfl (lv_at hl 4 rfl) ?_
        refine va_get (D := (dC, dI)) (ci := 1) (v := .ref oA) (C := RX1) (T := TX1) (N := 9) hx hb hts hin_1 hown hK hP 0 rfl rfl 2 (by decide) k_2 (fun _ h9 => h9) rfl dX1_mergeForward_109 ?_
        refine lv_iload hx hb dX1_mergeForward_112 (lv_at hl 0 rfl) ?_
        refine lv_aload_n hx hb dX1_mergeForward_114 rfl (lv_at hl 4 rfl) ?_
        refine va_get (D := (dC, dI)) (ci := 1) (v := .ref oP) (C := RX1) (T := TX1) (N := 9) hx hb hts hin_1 hown hK hP 0 rfl rfl 0 (by decide) k_1 (fun _ h9 => h9) rfl dX1_mergeForward_115 ?_
        refine lv_iload hx hb dX1_mergeForward_118 (lv_at hl 2 rfl) ?_
        refine lv_iload hx hb dX1_mergeForward_120 (lv_at hl 3 rfl) ?_
        refine lv_iload hx hb dX1_mergeForward_122 (lv_at hl 0 rfl) ?_
        refine xr_isub hx hb dX1_mergeForward_124 (by omega) ?_
        refine xr_copyl hx hb (hml.trans hl.1.symm) hown k_3 k_4 k_5 k_6 hK hP hD hS 2 1 0 0 rfl rfl rfl rfl (by omega) (by omega) (by omega) (by omega) (Nat.le_of_ble_eq_true rfl) (by decide) dX1_mergeForward_125 (fun H locs hP hD hS => ?_)
        have hP : va_P (dC, dI) vwCl [(o, .inr (1, [.ref oP, .int (nI n), .ref oA, .ref oL, .ref oR, .int (nI ru), .int (nI me), .long mp, .int (nI gh)])), (oP, .inl (cJ, C, .inr (.inl (va_cpy (va_cpy f g a 0 (mid - a)) P i t (mid - a - i))))), (oA, .inl (cJ, (C / 2), .inr (.inl (va_cpy f g a 0 (mid - a)))))] H := hP
        have hD : va_D A [(o, .inr (1, [.ref oP, .int (nI n), .ref oA, .ref oL, .ref oR, .int (nI ru), .int (nI me), .long mp, .int (nI gh)])), (oP, .inl (cJ, C, .inr (.inl (va_cpy (va_cpy f g a 0 (mid - a)) P i t (mid - a - i))))), (oA, .inl (cJ, (C / 2), .inr (.inl (va_cpy f g a 0 (mid - a)))))] := hD
        exact hret (_, _) _ _ _ _ _ _ (mf_end hs1 hs2 hI hfs) hP hK hD hS (Nat.le_of_ble_eq_true rfl) (Nat.le_of_ble_eq_true rfl) dX1_mergeForward_128
      · refine lv_iload hx hb dX1_mergeForward_36 (lv_at hl 1 rfl) ?_
        refine lv_iload_n hx hb dX1_mergeForward_38 rfl (lv_at hl 7 rfl) ?_
        refine xr_icmp_ge (tgt := 108) hx hb dX1_mergeForward_39 (by decide) (by omega) (by omega) (fun c_39 => ?_) (fun c_39 => ?_)
        · have hfs : i = mid - a ∨ s1 = b := Or.inr (by omega)
          refine lv_aload_n hx hb dX1_mergeForward_108 rfl (lv_at hl 4 rfl) ?_
          refine va_get (D := (dC, dI)) (ci := 1) (v := .ref oA) (C := RX1) (T := TX1) (N := 9) hx hb hts hin_1 hown hK hP 0 rfl rfl 2 (by decide) k_2 (fun _ h9 => h9) rfl dX1_mergeForward_109 ?_
          refine lv_iload hx hb dX1_mergeForward_112 (lv_at hl 0 rfl) ?_
          refine lv_aload_n hx hb dX1_mergeForward_114 rfl (lv_at hl 4 rfl) ?_
          refine va_get (D := (dC, dI)) (ci := 1) (v := .ref oP) (C := RX1) (T := TX1) (N := 9) hx hb hts hin_1 hown hK hP 0 rfl rfl 0 (by decide) k_1 (fun _ h9 => h9) rfl dX1_mergeForward_115 ?_
          refine lv_iload hx hb dX1_mergeForward_118 (lv_at hl 2 rfl) ?_
          refine lv_iload hx hb dX1_mergeForward_120 (lv_at hl 3 rfl) ?_
          refine lv_iload hx hb dX1_mergeForward_122 (lv_at hl 0 rfl) ?_
          refine xr_isub hx hb dX1_mergeForward_124 (by omega) ?_
          refine xr_copyl hx hb (hml.trans hl.1.symm) hown k_3 k_4 k_5 k_6 hK hP hD hS 2 1 0 0 rfl rfl rfl rfl (by omega) (by omega) (by omega) (by omega) (Nat.le_of_ble_eq_true rfl) (by decide) dX1_mergeForward_125 (fun H locs hP hD hS => ?_)
          have hP : va_P (dC, dI) vwCl [(o, .inr (1, [.ref oP, .int (nI n), .ref oA, .ref oL, .ref oR, .int (nI ru), .int (nI me), .long mp, .int (nI gh)])), (oP, .inl (cJ, C, .inr (.inl (va_cpy (va_cpy f g a 0 (mid - a)) P i t (mid - a - i))))), (oA, .inl (cJ, (C / 2), .inr (.inl (va_cpy f g a 0 (mid - a)))))] H := hP
          have hD : va_D A [(o, .inr (1, [.ref oP, .int (nI n), .ref oA, .ref oL, .ref oR, .int (nI ru), .int (nI me), .long mp, .int (nI gh)])), (oP, .inl (cJ, C, .inr (.inl (va_cpy (va_cpy f g a 0 (mid - a)) P i t (mid - a - i))))), (oA, .inl (cJ, (C / 2), .inr (.inl (va_cpy f g a 0 (mid - a)))))] := hD
          exact hret (_, _) _ _ _ _ _ _ (mf_end hs1 hs2 hI hfs) hP hK hD hS (Nat.le_of_ble_eq_true rfl) (Nat.le_of_ble_eq_true rfl) dX1_mergeForward_128
        · refine lv_aload_n hx hb dX1_mergeForward_42 rfl (lv_at hl 4 rfl) ?_
          refine va_get (D := (dC, dI)) (ci := 1) (v := .ref oP) (C := RX1) (T := TX1) (N := 9) hx hb hts hin_1 hown hK hP 0 rfl rfl 0 (by decide) k_1 (fun _ h9 => h9) rfl dX1_mergeForward_43 ?_
          refine lv_iload hx hb dX1_mergeForward_46 (lv_at hl 1 rfl) ?_
          refine xr_lald hx hb hK hP 1 0 rfl rfl (by omega) (by omega) dX1_mergeForward_48 ?_
          refine call_S_I (As := [.long (P s1)]) (rest := []) (wr := [(o, .inr (1, [.ref oP, .int (nI n), .ref oA, .ref oL, .ref oR, .int (nI ru), .int (nI me), .long mp, .int (nI gh)])), (oP, .inl (cJ, C, .inr (.inl P))), (oA, .inl (cJ, (C / 2), .inr (.inl (va_cpy f g a 0 (mid - a)))))]) ⟨hx, hb, hml, hown, hts⟩ (c_X1_keyOf l dC dI cJ cI (P s1)) (va_cwS 1 hts gX1_mergeForward_X1_keyOf rfl rfl rfl (by decide +kernel) ⟨Nat.le_of_ble_eq_true rfl, Nat.le_of_ble_eq_true rfl⟩) hP hD hK hN hS hA [] [0, 1, 2] [0, 1] rfl rfl rfl (by decide) (by decide) (by decide) rfl hl.1 rfl (Nat.le_of_ble_eq_true rfl) dX1_mergeForward_49 (Nat.le_of_ble_eq_true rfl) (Nat.le_of_ble_eq_true rfl) (fun r_49 u_49 H locs hw_49 hP hD hK1 hS => ?_)
          refine W.widen (k := 0) (n := 0) (Nat.le_of_ble_eq_true rfl) (Nat.le_of_ble_eq_true rfl) ?_
          have hP : va_P (dC, dI) vwCl [(o, .inr (1, [.ref oP, .int (nI n), .ref oA, .ref oL, .ref oR, .int (nI ru), .int (nI me), .long mp, .int (nI gh)])), (oP, .inl (cJ, C, .inr (.inl P))), (oA, .inl (cJ, (C / 2), .inr (.inl (va_cpy f g a 0 (mid - a)))))] H := ct_Psub hP [0, 1, 2] rfl
          have hD : va_D A [(o, .inr (1, [.ref oP, .int (nI n), .ref oA, .ref oL, .ref oR, .int (nI ru), .int (nI me), .long mp, .int (nI gh)])), (oP, .inl (cJ, C, .inr (.inl P))), (oA, .inl (cJ, (C / 2), .inr (.inl (va_cpy f g a 0 (mid - a)))))] := hD.sub [0, 1, 2] (by decide) rfl
          refine xr_top (y := kyI (P s1)) (hw_49) ?_
          refine lv_aload_n hx hb dX1_mergeForward_52 rfl (lv_at hl 4 rfl) ?_
          refine va_get (D := (dC, dI)) (ci := 1) (v := .ref oA) (C := RX1) (T := TX1) (N := 9) hx hb hts hin_1 hown hK hP 0 rfl rfl 2 (by decide) k_2 (fun _ h9 => h9) rfl dX1_mergeForward_53 ?_
          refine lv_iload hx hb dX1_mergeForward_56 (lv_at hl 0 rfl) ?_
          refine xr_lald hx hb hK hP 2 0 rfl rfl (by omega) (by omega) dX1_mergeForward_58 ?_
          refine call_S_I (As := [.long ((va_cpy f g a 0 (mid - a)) i)]) (rest := [.int (kyI (P s1))]) (wr := [(o, .inr (1, [.ref oP, .int (nI n), .ref oA, .ref oL, .ref oR, .int (nI ru), .int (nI me), .long mp, .int (nI gh)])), (oP, .inl (cJ, C, .inr (.inl P))), (oA, .inl (cJ, (C / 2), .inr (.inl (va_cpy f g a 0 (mid - a)))))]) ⟨hx, hb, hml, hown, hts⟩ (c_X1_keyOf l dC dI cJ cI ((va_cpy f g a 0 (mid - a)) i)) (va_cwS 1 hts gX1_mergeForward_X1_keyOf rfl rfl rfl (by decide +kernel) ⟨Nat.le_of_ble_eq_true rfl, Nat.le_of_ble_eq_true rfl⟩) hP hD hK hN hS hA [] [0, 1, 2] [0, 1] rfl rfl rfl (by decide) (by decide) (by decide) rfl hl.1 rfl (Nat.le_of_ble_eq_true rfl) dX1_mergeForward_59 (Nat.le_of_ble_eq_true rfl) (Nat.le_of_ble_eq_true rfl) (fun r_59 u_59 H locs hw_59 hP hD hK1 hS => ?_)
          refine W.widen (k := 0) (n := 0) (Nat.le_of_ble_eq_true rfl) (Nat.le_of_ble_eq_true rfl) ?_
          have hP : va_P (dC, dI) vwCl [(o, .inr (1, [.ref oP, .int (nI n), .ref oA, .ref oL, .ref oR, .int (nI ru), .int (nI me), .long mp, .int (nI gh)])), (oP, .inl (cJ, C, .inr (.inl P))), (oA, .inl (cJ, (C / 2), .inr (.inl (va_cpy f g a 0 (mid - a)))))] H := ct_Psub hP [0, 1, 2] rfl
          have hD : va_D A [(o, .inr (1, [.ref oP, .int (nI n), .ref oA, .ref oL, .ref oR, .int (nI ru), .int (nI me), .long mp, .int (nI gh)])), (oP, .inl (cJ, C, .inr (.inl P))), (oA, .inl (cJ, (C / 2), .inr (.inl (va_cpy f g a 0 (mid - a)))))] := hD.sub [0, 1, 2] (by decide) rfl
          refine xr_top (y := kyI ((va_cpy f g a 0 (mid - a)) i)) (hw_59) ?_
          refine lv_icmp_ge (tgt := 85) hx hb dX1_mergeForward_62 (by decide) (fun c_62 => ?_) (fun c_62 => ?_)
          · have hNew := mf_A hs1 hs2 hI c_33 (fun _ => by rw [← hPs]; exact Int32.le_iff_toInt_le.mp c_62)
            refine lv_aload_n hx hb dX1_mergeForward_85 rfl (lv_at hl 4 rfl) ?_
            refine va_get (D := (dC, dI)) (ci := 1) (v := .ref oP) (C := RX1) (T := TX1) (N := 9) hx hb hts hin_1 hown hK hP 0 rfl rfl 0 (by decide) k_1 (fun _ h9 => h9) rfl dX1_mergeForward_86 ?_
            refine lv_iload hx hb dX1_mergeForward_89 (lv_at hl 2 rfl) ?_
            refine lv_aload_n hx hb dX1_mergeForward_91 rfl (lv_at hl 4 rfl) ?_
            refine va_get (D := (dC, dI)) (ci := 1) (v := .ref oA) (C := RX1) (T := TX1) (N := 9) hx hb hts hin_1 hown hK hP 0 rfl rfl 2 (by decide) k_2 (fun _ h9 => h9) rfl dX1_mergeForward_92 ?_
            refine lv_iload hx hb dX1_mergeForward_95 (lv_at hl 0 rfl) ?_
            refine xr_lald hx hb hK hP 2 0 rfl rfl (by omega) (by omega) dX1_mergeForward_97 ?_
            refine xr_last hx hb hK hP hD hS 1 0 rfl rfl (by omega) (by omega) dX1_mergeForward_98 (fun H locs hP hD hS => ?_)
            have hP : va_P (dC, dI) vwCl [(o, .inr (1, [.ref oP, .int (nI n), .ref oA, .ref oL, .ref oR, .int (nI ru), .int (nI me), .long mp, .int (nI gh)])), (oP, .inl (cJ, C, .inr (.inl (uN_up P t ((va_cpy f g a 0 (mid - a)) i))))), (oA, .inl (cJ, (C / 2), .inr (.inl (va_cpy f g a 0 (mid - a)))))] H := hP
            have hD : va_D A [(o, .inr (1, [.ref oP, .int (nI n), .ref oA, .ref oL, .ref oR, .int (nI ru), .int (nI me), .long mp, .int (nI gh)])), (oP, .inl (cJ, C, .inr (.inl (uN_up P t ((va_cpy f g a 0 (mid - a)) i))))), (oA, .inl (cJ, (C / 2), .inr (.inl (va_cpy f g a 0 (mid - a)))))] := hD
            refine lv_iinc (v := nI (i + 1)) (lv' := [(5, .int (nI (i + 1))), (6, .int (nI s1)), (7, .int (nI t)), (4, .int (nI (mid - a))), (0, .ref o), (1, .int (nI a)), (2, .int (nI mid)), (3, .int (nI b))]) hx hb dX1_mergeForward_99 hl (k := 0) rfl (nI_add i 1) (by decide) rfl (fun ls hl => ?_)
            refine lv_iinc (v := nI (t + 1)) (lv' := [(7, .int (nI (t + 1))), (5, .int (nI (i + 1))), (6, .int (nI s1)), (4, .int (nI (mid - a))), (0, .ref o), (1, .int (nI a)), (2, .int (nI mid)), (3, .int (nI b))]) hx hb dX1_mergeForward_102 hl (k := 2) rfl (nI_add t 1) (by decide) rfl (fun ls hl => ?_)
            refine lv_goto (tgt := 29) hx hb dX1_mergeForward_105 (by decide) ?_
            exact ih_f (uN_up P t ((va_cpy f g a 0 (mid - a)) i)) (i + 1) s1 (t + 1) hNew (by omega) _ _ _ hP hD hS (lv_sub hl [1, 2, 0, 3, 4, 5, 6, 7] rfl)
          · have hNew : mfI ky f (va_cpy f g a 0 (mid - a)) (uN_up P t (P s1)) a mid b i (s1 + 1) (t + 1) := by
              have hk : ky (P s1) < ky ((va_cpy f g a 0 (mid - a)) i) := Int.not_le.mp (fun q => c_62 (Int32.le_iff_toInt_le.mpr q))
              rw [hPs] at hk ⊢
              exact mf_B hs1 hs2 hI c_33 c_39 hk
            refine lv_aload_n hx hb dX1_mergeForward_65 rfl (lv_at hl 4 rfl) ?_
            refine va_get (D := (dC, dI)) (ci := 1) (v := .ref oP) (C := RX1) (T := TX1) (N := 9) hx hb hts hin_1 hown hK hP 0 rfl rfl 0 (by decide) k_1 (fun _ h9 => h9) rfl dX1_mergeForward_66 ?_
            refine lv_iload hx hb dX1_mergeForward_69 (lv_at hl 2 rfl) ?_
            refine lv_aload_n hx hb dX1_mergeForward_71 rfl (lv_at hl 4 rfl) ?_
            refine va_get (D := (dC, dI)) (ci := 1) (v := .ref oP) (C := RX1) (T := TX1) (N := 9) hx hb hts hin_1 hown hK hP 0 rfl rfl 0 (by decide) k_1 (fun _ h9 => h9) rfl dX1_mergeForward_72 ?_
            refine lv_iload hx hb dX1_mergeForward_75 (lv_at hl 1 rfl) ?_
            refine xr_lald hx hb hK hP 1 0 rfl rfl (by omega) (by omega) dX1_mergeForward_77 ?_
            refine xr_last hx hb hK hP hD hS 1 0 rfl rfl (by omega) (by omega) dX1_mergeForward_78 (fun H locs hP hD hS => ?_)
            have hP : va_P (dC, dI) vwCl [(o, .inr (1, [.ref oP, .int (nI n), .ref oA, .ref oL, .ref oR, .int (nI ru), .int (nI me), .long mp, .int (nI gh)])), (oP, .inl (cJ, C, .inr (.inl (uN_up P t (P s1))))), (oA, .inl (cJ, (C / 2), .inr (.inl (va_cpy f g a 0 (mid - a)))))] H := hP
            have hD : va_D A [(o, .inr (1, [.ref oP, .int (nI n), .ref oA, .ref oL, .ref oR, .int (nI ru), .int (nI me), .long mp, .int (nI gh)])), (oP, .inl (cJ, C, .inr (.inl (uN_up P t (P s1))))), (oA, .inl (cJ, (C / 2), .inr (.inl (va_cpy f g a 0 (mid - a)))))] := hD
            refine lv_iinc (v := nI (s1 + 1)) (lv' := [(6, .int (nI (s1 + 1))), (5, .int (nI i)), (7, .int (nI t)), (4, .int (nI (mid - a))), (0, .ref o), (1, .int (nI a)), (2, .int (nI mid)), (3, .int (nI b))]) hx hb dX1_mergeForward_79 hl (k := 1) rfl (nI_add s1 1) (by decide) rfl (fun ls hl => ?_)
            refine lv_goto (tgt := 102) hx hb dX1_mergeForward_82 (by decide) ?_
            refine lv_iinc (v := nI (t + 1)) (lv' := [(7, .int (nI (t + 1))), (6, .int (nI (s1 + 1))), (5, .int (nI i)), (4, .int (nI (mid - a))), (0, .ref o), (1, .int (nI a)), (2, .int (nI mid)), (3, .int (nI b))]) hx hb dX1_mergeForward_102 hl (k := 2) rfl (nI_add t 1) (by decide) rfl (fun ls hl => ?_)
            refine lv_goto (tgt := 29) hx hb dX1_mergeForward_105 (by decide) ?_
            exact ih_f (uN_up P t (P s1)) i (s1 + 1) (t + 1) hNew (by omega) _ _ _ hP hD hS (lv_sub hl [2, 1, 0, 3, 4, 5, 6, 7] rfl)
  exact L_f (_ + 1) f 0 mid a (mf_init h1 h2 (fun i hi => by rw [pk_cpy_in (Nat.zero_le _) (by omega), Nat.sub_zero])) (Nat.lt_succ_self _) _ _ _ hP hD hS (lv_sub hl [2, 1, 0, 3, 4, 5, 6, 7] rfl)
abbrev rmX1_mergeBackward : Room := { frames := 1, cells := 0, slots := 0, locals := 28 }
set_option maxRecDepth 100000 in
set_option maxHeartbeats 4000000 in
theorem c_X1_mergeBackward (l : Launch) (dC : Nat → ClassId) (dI : Nat → Nat → Nat) (cJ cI : ClassId) (o oP oA oL oR C n ru me gh : Nat) (mp : Int64) (f : Nat → Int64) (g : Nat → Int64) (a mid b : Nat) (h1 : a ≤ mid) (h2 : mid ≤ b) (h3 : b ≤ C) (hC : C ≤ 4096) (h4 : b - mid ≤ C / 2) (hs1 : so ky f a mid) (hs2 : so ky f mid b) : CV l yX1_mergeBackward wsX1_mergeBackward rmX1_mergeBackward [.ref o, .int (nI a), .int (nI mid), .int (nI b)] (dC, dI) vwCl (KT cJ cI) [(o, .inr (1, [.ref oP, .int (nI n), .ref oA, .ref oL, .ref oR, .int (nI ru), .int (nI me), .long mp, .int (nI gh)])), (oP, .inl (cJ, C, .inr (.inl f))), (oA, .inl (cJ, (C / 2), .inr (.inl g)))] (S := (Nat → Int64) × (Nat → Int64)) (fun u => okp f u.1 a b) (fun _ => KT cJ cI) (fun u => [(o, .inr (1, [.ref oP, .int (nI n), .ref oA, .ref oL, .ref oR, .int (nI ru), .int (nI me), .long mp, .int (nI gh)])), (oP, .inl (cJ, C, .inr (.inl u.1))), (oA, .inl (cJ, (C / 2), .inr (.inl u.2)))]) := by
  refine CV.mk (by decide) rfl (Nat.le_of_ble_eq_true rfl) ?_
  intro p e s m args below meth c A Q ls hx hb hml hown hts hin hA hS hP hD hK hN hl hret
  have hl : lv_has ls 8 [(0, .ref o), (1, .int (nI a)), (2, .int (nI mid)), (3, .int (nI b))] := hl
  have hin_1 : ∀ w ∈ u_ws RX1 TX1 9, w ∈ wsX1_mergeBackward := by decide +kernel
  have k_1 := hts (Cond.fieldLink RX1 18 "PairSorter" "pairs" "[J") (by decide +kernel)
  have k_2 := hts (Cond.fieldLink RX1 22 "PairSorter" "aside" "[J") (by decide +kernel)
  have k_3 := hts (Cond.methodLink RX1 123 arraycopyName) (by decide +kernel)
  have k_4 := hts (Cond.native arraycopyName) (by decide +kernel)
  have k_5 := hts (Cond.static arraycopyName) (by decide +kernel)
  have k_6 := hts (Cond.initialized "java/lang/System") (by decide +kernel)
  refine lv_iload_n hx hb dX1_mergeBackward_0 rfl (lv_at hl 3 rfl) ?_
  refine lv_iload_n hx hb dX1_mergeBackward_1 rfl (lv_at hl 2 rfl) ?_
  refine xr_isub hx hb dX1_mergeBackward_2 (by omega) ?_
  refine lv_istore (lv' := [(4, .int (nI (b - mid))), (0, .ref o), (1, .int (nI a)), (2, .int (nI mid)), (3, .int (nI b))]) hx hb dX1_mergeBackward_3 hl (by decide) rfl (fun ls hl => ?_)
  refine lv_aload_n hx hb dX1_mergeBackward_5 rfl (lv_at hl 1 rfl) ?_
  refine va_get (D := (dC, dI)) (ci := 1) (v := .ref oP) (C := RX1) (T := TX1) (N := 9) hx hb hts hin_1 hown hK hP 0 rfl rfl 0 (by decide) k_1 (fun _ h9 => h9) rfl dX1_mergeBackward_6 ?_
  refine lv_iload_n hx hb dX1_mergeBackward_9 rfl (lv_at hl 3 rfl) ?_
  refine lv_aload_n hx hb dX1_mergeBackward_10 rfl (lv_at hl 1 rfl) ?_
  refine va_get (D := (dC, dI)) (ci := 1) (v := .ref oA) (C := RX1) (T := TX1) (N := 9) hx hb hts hin_1 hown hK hP 0 rfl rfl 2 (by decide) k_2 (fun _ h9 => h9) rfl dX1_mergeBackward_11 ?_
  refine lv_iconst (v := nI 0) hx hb dX1_mergeBackward_14 (by decide) ?_
  refine lv_iload hx hb dX1_mergeBackward_15 (lv_at hl 0 rfl) ?_
  refine xr_copyl hx hb (hml.trans hl.1.symm) hown k_3 k_4 k_5 k_6 hK hP hD hS 1 2 0 0 rfl rfl rfl rfl (by omega) (by omega) (by omega) (by omega) (Nat.le_of_ble_eq_true rfl) (by decide) dX1_mergeBackward_17 (fun H locs hP hD hS => ?_)
  have hP : va_P (dC, dI) vwCl [(o, .inr (1, [.ref oP, .int (nI n), .ref oA, .ref oL, .ref oR, .int (nI ru), .int (nI me), .long mp, .int (nI gh)])), (oP, .inl (cJ, C, .inr (.inl f))), (oA, .inl (cJ, (C / 2), .inr (.inl (va_cpy f g mid 0 (b - mid)))))] H := hP
  have hD : va_D A [(o, .inr (1, [.ref oP, .int (nI n), .ref oA, .ref oL, .ref oR, .int (nI ru), .int (nI me), .long mp, .int (nI gh)])), (oP, .inl (cJ, C, .inr (.inl f))), (oA, .inl (cJ, (C / 2), .inr (.inl (va_cpy f g mid 0 (b - mid)))))] := hD
  refine lv_iload_n hx hb dX1_mergeBackward_20 rfl (lv_at hl 3 rfl) ?_
  refine lv_iconst (v := nI 1) hx hb dX1_mergeBackward_21 (by decide) ?_
  refine lv_isub hx hb dX1_mergeBackward_22 ?_
  refine xr_top (y := nI mid - nI 1) (rfl) ?_
  refine lv_istore (lv' := [(5, .int (nI mid - nI 1)), (4, .int (nI (b - mid))), (0, .ref o), (1, .int (nI a)), (2, .int (nI mid)), (3, .int (nI b))]) hx hb dX1_mergeBackward_23 hl (by decide) rfl (fun ls hl => ?_)
  refine lv_iload hx hb dX1_mergeBackward_25 (lv_at hl 1 rfl) ?_
  refine lv_iconst (v := nI 1) hx hb dX1_mergeBackward_27 (by decide) ?_
  refine lv_isub hx hb dX1_mergeBackward_28 ?_
  refine xr_top (y := nI (b - mid) - nI 1) (rfl) ?_
  refine lv_istore (lv' := [(6, .int (nI (b - mid) - nI 1)), (5, .int (nI mid - nI 1)), (4, .int (nI (b - mid))), (0, .ref o), (1, .int (nI a)), (2, .int (nI mid)), (3, .int (nI b))]) hx hb dX1_mergeBackward_29 hl (by decide) rfl (fun ls hl => ?_)
  refine lv_iload_n hx hb dX1_mergeBackward_31 rfl (lv_at hl 6 rfl) ?_
  refine lv_iconst (v := nI 1) hx hb dX1_mergeBackward_32 (by decide) ?_
  refine lv_isub hx hb dX1_mergeBackward_33 ?_
  refine xr_top (y := nI b - nI 1) (rfl) ?_
  refine lv_istore (lv' := [(7, .int (nI b - nI 1)), (6, .int (nI (b - mid) - nI 1)), (5, .int (nI mid - nI 1)), (4, .int (nI (b - mid))), (0, .ref o), (1, .int (nI a)), (2, .int (nI mid)), (3, .int (nI b))]) hx hb dX1_mergeBackward_34 hl (by decide) rfl (fun ls hl => ?_)
  have L_b : ∀ (kq : Nat) (P : Nat → Int64) (q z t : Nat), (mbI ky f (va_cpy f g mid 0 (b - mid)) P a mid b q z t) → q + z < kq → ∀ (H : Heap) (locs : List Loc) (ls : Array Slot), va_P (dC, dI) vwCl [(o, .inr (1, [.ref oP, .int (nI n), .ref oA, .ref oL, .ref oR, .int (nI ru), .int (nI me), .long mp, .int (nI gh)])), (oP, .inl (cJ, C, .inr (.inl P))), (oA, .inl (cJ, (C / 2), .inr (.inl (va_cpy f g mid 0 (b - mid)))))] H → va_D A [(o, .inr (1, [.ref oP, .int (nI n), .ref oA, .ref oL, .ref oR, .int (nI ru), .int (nI me), .long mp, .int (nI gh)])), (oP, .inl (cJ, C, .inr (.inl P))), (oA, .inl (cJ, (C / 2), .inr (.inl (va_cpy f g mid 0 (b - mid)))))] → va_S A s.heap H locs → lv_has ls 8 [(5, .int (nI q - nI 1)), (6, .int (nI z - nI 1)), (7, .int (nI t - nI 1)), (4, .int (nI (b - mid))), (0, .ref o), (1, .int (nI a)), (2, .int (nI mid)), (3, .int (nI b))] → W p l e rmX1_mergeBackward s m args below meth c H locs 0 0 Q (F0 m 36 ls []) := by
    intro kq
    induction kq with
    | zero =>
      intro P q z t hI hm
      exact absurd hm (Nat.not_lt_zero _)
    | succ kq ih_b =>
      intro P q z t hI hm H locs ls hP hD hS hl
      obtain ⟨i1, i2, i3, i4, i6⟩ := id hI.1
      have hAs := hI.2.1
      refine lv_iload hx hb dX1_mergeBackward_36 (lv_at hl 0 rfl) ?_
      refine lv_iload_n hx hb dX1_mergeBackward_38 rfl (lv_at hl 5 rfl) ?_
      refine xz_icmp_lt (tgt := 113) hx hb dX1_mergeBackward_39 (by decide) (zM (t := q) (by omega)) (zN (t := a) (by omega)) (fun c_39 => ?_) (fun c_39 => ?_)
      · have hpq : q = a ∨ z = 0 := Or.inl (by omega)
        refine lv_aload_n hx hb dX1_mergeBackward_113 rfl (lv_at hl 4 rfl) ?_
        refine va_get (D := (dC, dI)) (ci := 1) (v := .ref oA) (C := RX1) (T := TX1) (N := 9) hx hb hts hin_1 hown hK hP 0 rfl rfl 2 (by decide) k_2 (fun _ h9 => h9) rfl dX1_mergeBackward_114 ?_
        refine lv_iconst (v := nI 0) hx hb dX1_mergeBackward_117 (by decide) ?_
        refine lv_aload_n hx hb dX1_mergeBackward_118 rfl (lv_at hl 4 rfl) ?_
        refine va_get (D := (dC, dI)) (ci := 1) (v := .ref oP) (C := RX1) (T := TX1) (N := 9) hx hb hts hin_1 hown hK hP 0 rfl rfl 0 (by decide) k_1 (fun _ h9 => h9) rfl dX1_mergeBackward_119 ?_
        refine lv_iload hx hb dX1_mergeBackward_122 (lv_at hl 2 rfl) ?_
        refine lv_iload hx hb dX1_mergeBackward_124 (lv_at hl 1 rfl) ?_
        refine lv_isub hx hb dX1_mergeBackward_126 ?_
        refine xr_top (y := nI q) ((zMM (by omega)).trans (by rw [show t - z = q by omega])) ?_
        refine lv_iload hx hb dX1_mergeBackward_127 (lv_at hl 1 rfl) ?_
        refine lv_iconst (v := nI 1) hx hb dX1_mergeBackward_129 (by decide) ?_
        refine lv_iadd hx hb dX1_mergeBackward_130 ?_
        refine xr_top (y := nI z) (zMp) ?_
        refine xr_copyl hx hb (hml.trans hl.1.symm) hown k_3 k_4 k_5 k_6 hK hP hD hS 2 1 0 0 rfl rfl rfl rfl (by omega) (by omega) (by omega) (by omega) (Nat.le_of_ble_eq_true rfl) (by decide) dX1_mergeBackward_131 (fun H locs hP hD hS => ?_)
        have hP : va_P (dC, dI) vwCl [(o, .inr (1, [.ref oP, .int (nI n), .ref oA, .ref oL, .ref oR, .int (nI ru), .int (nI me), .long mp, .int (nI gh)])), (oP, .inl (cJ, C, .inr (.inl (va_cpy (va_cpy f g mid 0 (b - mid)) P 0 q z)))), (oA, .inl (cJ, (C / 2), .inr (.inl (va_cpy f g mid 0 (b - mid)))))] H := hP
        have hD : va_D A [(o, .inr (1, [.ref oP, .int (nI n), .ref oA, .ref oL, .ref oR, .int (nI ru), .int (nI me), .long mp, .int (nI gh)])), (oP, .inl (cJ, C, .inr (.inl (va_cpy (va_cpy f g mid 0 (b - mid)) P 0 q z)))), (oA, .inl (cJ, (C / 2), .inr (.inl (va_cpy f g mid 0 (b - mid)))))] := hD
        exact hret (_, _) _ _ _ _ _ _ (mb_end hs1 hs2 hI hpq) hP hK hD hS (Nat.le_of_ble_eq_true rfl) (Nat.le_of_ble_eq_true rfl) dX1_mergeBackward_134
      · refine lv_iload hx hb dX1_mergeBackward_42 (lv_at hl 1 rfl) ?_
        refine xz_if_lt (tgt := 113) hx hb dX1_mergeBackward_44 (by decide) (zM (t := z) (by omega)) (fun c_44 => ?_) (fun c_44 => ?_)
        · have hpq : q = a ∨ z = 0 := Or.inr (by omega)
          refine lv_aload_n hx hb dX1_mergeBackward_113 rfl (lv_at hl 4 rfl) ?_
          refine va_get (D := (dC, dI)) (ci := 1) (v := .ref oA) (C := RX1) (T := TX1) (N := 9) hx hb hts hin_1 hown hK hP 0 rfl rfl 2 (by decide) k_2 (fun _ h9 => h9) rfl dX1_mergeBackward_114 ?_
          refine lv_iconst (v := nI 0) hx hb dX1_mergeBackward_117 (by decide) ?_
          refine lv_aload_n hx hb dX1_mergeBackward_118 rfl (lv_at hl 4 rfl) ?_
          refine va_get (D := (dC, dI)) (ci := 1) (v := .ref oP) (C := RX1) (T := TX1) (N := 9) hx hb hts hin_1 hown hK hP 0 rfl rfl 0 (by decide) k_1 (fun _ h9 => h9) rfl dX1_mergeBackward_119 ?_
          refine lv_iload hx hb dX1_mergeBackward_122 (lv_at hl 2 rfl) ?_
          refine lv_iload hx hb dX1_mergeBackward_124 (lv_at hl 1 rfl) ?_
          refine lv_isub hx hb dX1_mergeBackward_126 ?_
          refine xr_top (y := nI q) ((zMM (by omega)).trans (by rw [show t - z = q by omega])) ?_
          refine lv_iload hx hb dX1_mergeBackward_127 (lv_at hl 1 rfl) ?_
          refine lv_iconst (v := nI 1) hx hb dX1_mergeBackward_129 (by decide) ?_
          refine lv_iadd hx hb dX1_mergeBackward_130 ?_
          refine xr_top (y := nI z) (zMp) ?_
          refine xr_copyl hx hb (hml.trans hl.1.symm) hown k_3 k_4 k_5 k_6 hK hP hD hS 2 1 0 0 rfl rfl rfl rfl (by omega) (by omega) (by omega) (by omega) (Nat.le_of_ble_eq_true rfl) (by decide) dX1_mergeBackward_131 (fun H locs hP hD hS => ?_)
          have hP : va_P (dC, dI) vwCl [(o, .inr (1, [.ref oP, .int (nI n), .ref oA, .ref oL, .ref oR, .int (nI ru), .int (nI me), .long mp, .int (nI gh)])), (oP, .inl (cJ, C, .inr (.inl (va_cpy (va_cpy f g mid 0 (b - mid)) P 0 q z)))), (oA, .inl (cJ, (C / 2), .inr (.inl (va_cpy f g mid 0 (b - mid)))))] H := hP
          have hD : va_D A [(o, .inr (1, [.ref oP, .int (nI n), .ref oA, .ref oL, .ref oR, .int (nI ru), .int (nI me), .long mp, .int (nI gh)])), (oP, .inl (cJ, C, .inr (.inl (va_cpy (va_cpy f g mid 0 (b - mid)) P 0 q z)))), (oA, .inl (cJ, (C / 2), .inr (.inl (va_cpy f g mid 0 (b - mid)))))] := hD
          exact hret (_, _) _ _ _ _ _ _ (mb_end hs1 hs2 hI hpq) hP hK hD hS (Nat.le_of_ble_eq_true rfl) (Nat.le_of_ble_eq_true rfl) dX1_mergeBackward_134
        · refine lv_aload_n hx hb dX1_mergeBackward_47 rfl (lv_at hl 4 rfl) ?_
          refine va_get (D := (dC, dI)) (ci := 1) (v := .ref oA) (C := RX1) (T := TX1) (N := 9) hx hb hts hin_1 hown hK hP 0 rfl rfl 2 (by decide) k_2 (fun _ h9 => h9) rfl dX1_mergeBackward_48 ?_
          refine lv_iload hx hb dX1_mergeBackward_51 (lv_at hl 1 rfl) ?_
          refine xr_top (y := nI (z - 1)) (pk_sub (by omega)) ?_
          refine xr_lald hx hb hK hP 2 0 rfl rfl (by omega) (by omega) dX1_mergeBackward_53 ?_
          refine call_S_I (As := [.long ((va_cpy f g mid 0 (b - mid)) (z - 1))]) (rest := []) (wr := [(o, .inr (1, [.ref oP, .int (nI n), .ref oA, .ref oL, .ref oR, .int (nI ru), .int (nI me), .long mp, .int (nI gh)])), (oP, .inl (cJ, C, .inr (.inl P))), (oA, .inl (cJ, (C / 2), .inr (.inl (va_cpy f g mid 0 (b - mid)))))]) ⟨hx, hb, hml, hown, hts⟩ (c_X1_keyOf l dC dI cJ cI ((va_cpy f g mid 0 (b - mid)) (z - 1))) (va_cwS 1 hts gX1_mergeBackward_X1_keyOf rfl rfl rfl (by decide +kernel) ⟨Nat.le_of_ble_eq_true rfl, Nat.le_of_ble_eq_true rfl⟩) hP hD hK hN hS hA [] [0, 1, 2] [0, 1] rfl rfl rfl (by decide) (by decide) (by decide) rfl hl.1 rfl (Nat.le_of_ble_eq_true rfl) dX1_mergeBackward_54 (Nat.le_of_ble_eq_true rfl) (Nat.le_of_ble_eq_true rfl) (fun r_54 u_54 H locs hw_54 hP hD hK1 hS => ?_)
          refine W.widen (k := 0) (n := 0) (Nat.le_of_ble_eq_true rfl) (Nat.le_of_ble_eq_true rfl) ?_
          have hP : va_P (dC, dI) vwCl [(o, .inr (1, [.ref oP, .int (nI n), .ref oA, .ref oL, .ref oR, .int (nI ru), .int (nI me), .long mp, .int (nI gh)])), (oP, .inl (cJ, C, .inr (.inl P))), (oA, .inl (cJ, (C / 2), .inr (.inl (va_cpy f g mid 0 (b - mid)))))] H := ct_Psub hP [0, 1, 2] rfl
          have hD : va_D A [(o, .inr (1, [.ref oP, .int (nI n), .ref oA, .ref oL, .ref oR, .int (nI ru), .int (nI me), .long mp, .int (nI gh)])), (oP, .inl (cJ, C, .inr (.inl P))), (oA, .inl (cJ, (C / 2), .inr (.inl (va_cpy f g mid 0 (b - mid)))))] := hD.sub [0, 1, 2] (by decide) rfl
          refine xr_top (y := kyI ((va_cpy f g mid 0 (b - mid)) (z - 1))) (hw_54) ?_
          refine lv_aload_n hx hb dX1_mergeBackward_57 rfl (lv_at hl 4 rfl) ?_
          refine va_get (D := (dC, dI)) (ci := 1) (v := .ref oP) (C := RX1) (T := TX1) (N := 9) hx hb hts hin_1 hown hK hP 0 rfl rfl 0 (by decide) k_1 (fun _ h9 => h9) rfl dX1_mergeBackward_58 ?_
          refine lv_iload hx hb dX1_mergeBackward_61 (lv_at hl 0 rfl) ?_
          refine xr_top (y := nI (q - 1)) (pk_sub (by omega)) ?_
          refine xr_lald hx hb hK hP 1 0 rfl rfl (by omega) (by omega) dX1_mergeBackward_63 ?_
          refine call_S_I (As := [.long (P (q - 1))]) (rest := [.int (kyI ((va_cpy f g mid 0 (b - mid)) (z - 1)))]) (wr := [(o, .inr (1, [.ref oP, .int (nI n), .ref oA, .ref oL, .ref oR, .int (nI ru), .int (nI me), .long mp, .int (nI gh)])), (oP, .inl (cJ, C, .inr (.inl P))), (oA, .inl (cJ, (C / 2), .inr (.inl (va_cpy f g mid 0 (b - mid)))))]) ⟨hx, hb, hml, hown, hts⟩ (c_X1_keyOf l dC dI cJ cI (P (q - 1))) (va_cwS 1 hts gX1_mergeBackward_X1_keyOf rfl rfl rfl (by decide +kernel) ⟨Nat.le_of_ble_eq_true rfl, Nat.le_of_ble_eq_true rfl⟩) hP hD hK hN hS hA [] [0, 1, 2] [0, 1] rfl rfl rfl (by decide) (by decide) (by decide) rfl hl.1 rfl (Nat.le_of_ble_eq_true rfl) dX1_mergeBackward_64 (Nat.le_of_ble_eq_true rfl) (Nat.le_of_ble_eq_true rfl) (fun r_64 u_64 H locs hw_64 hP hD hK1 hS => ?_)
          refine W.widen (k := 0) (n := 0) (Nat.le_of_ble_eq_true rfl) (Nat.le_of_ble_eq_true rfl) ?_
          have hP : va_P (dC, dI) vwCl [(o, .inr (1, [.ref oP, .int (nI n), .ref oA, .ref oL, .ref oR, .int (nI ru), .int (nI me), .long mp, .int (nI gh)])), (oP, .inl (cJ, C, .inr (.inl P))), (oA, .inl (cJ, (C / 2), .inr (.inl (va_cpy f g mid 0 (b - mid)))))] H := ct_Psub hP [0, 1, 2] rfl
          have hD : va_D A [(o, .inr (1, [.ref oP, .int (nI n), .ref oA, .ref oL, .ref oR, .int (nI ru), .int (nI me), .long mp, .int (nI gh)])), (oP, .inl (cJ, C, .inr (.inl P))), (oA, .inl (cJ, (C / 2), .inr (.inl (va_cpy f g mid 0 (b - mid)))))] := hD.sub [0, 1, 2] (by decide) rfl
          refine xr_top (y := kyI (P (q - 1))) (hw_64) ?_
          have hPp : P (q - 1) = f (q - 1) := hI.2.2.1 (q - 1) (by omega)
          have hI2 : mbI ky f (va_cpy f g mid 0 (b - mid)) P a mid b q z (t - 1 + 1) := by rw [show t - 1 + 1 = t by omega]; exact hI
          refine lv_icmp_ge (tgt := 90) hx hb dX1_mergeBackward_67 (by decide) (fun c_67 => ?_) (fun c_67 => ?_)
          · have hk := Int32.le_iff_toInt_le.mp c_67
            rw [hPp] at hk
            have hNew : mbI ky f (va_cpy f g mid 0 (b - mid)) (uN_up P (t - 1) ((va_cpy f g mid 0 (b - mid)) (z - 1))) a mid b q (z - 1) (t - 1) := by
              refine mb_B hs1 hs2 (by rw [show z - 1 + 1 = z by omega]; exact hI2) (fun i g1 g2 => ?_)
              by_cases hi : i = q - 1
              · rw [hi]; exact hk
              · exact Int.le_trans (hs1 i (q - 1) g1 (by omega) (by omega)) hk
            refine lv_aload_n hx hb dX1_mergeBackward_90 rfl (lv_at hl 4 rfl) ?_
            refine va_get (D := (dC, dI)) (ci := 1) (v := .ref oP) (C := RX1) (T := TX1) (N := 9) hx hb hts hin_1 hown hK hP 0 rfl rfl 0 (by decide) k_1 (fun _ h9 => h9) rfl dX1_mergeBackward_91 ?_
            refine lv_iload hx hb dX1_mergeBackward_94 (lv_at hl 2 rfl) ?_
            refine xr_top (y := nI (t - 1)) (pk_sub (by omega)) ?_
            refine lv_aload_n hx hb dX1_mergeBackward_96 rfl (lv_at hl 4 rfl) ?_
            refine va_get (D := (dC, dI)) (ci := 1) (v := .ref oA) (C := RX1) (T := TX1) (N := 9) hx hb hts hin_1 hown hK hP 0 rfl rfl 2 (by decide) k_2 (fun _ h9 => h9) rfl dX1_mergeBackward_97 ?_
            refine lv_iload hx hb dX1_mergeBackward_100 (lv_at hl 1 rfl) ?_
            refine xr_top (y := nI (z - 1)) (pk_sub (by omega)) ?_
            refine xr_lald hx hb hK hP 2 0 rfl rfl (by omega) (by omega) dX1_mergeBackward_102 ?_
            refine xr_last hx hb hK hP hD hS 1 0 rfl rfl (by omega) (by omega) dX1_mergeBackward_103 (fun H locs hP hD hS => ?_)
            have hP : va_P (dC, dI) vwCl [(o, .inr (1, [.ref oP, .int (nI n), .ref oA, .ref oL, .ref oR, .int (nI ru), .int (nI me), .long mp, .int (nI gh)])), (oP, .inl (cJ, C, .inr (.inl (uN_up P (t - 1) ((va_cpy f g mid 0 (b - mid)) (z - 1)))))), (oA, .inl (cJ, (C / 2), .inr (.inl (va_cpy f g mid 0 (b - mid)))))] H := hP
            have hD : va_D A [(o, .inr (1, [.ref oP, .int (nI n), .ref oA, .ref oL, .ref oR, .int (nI ru), .int (nI me), .long mp, .int (nI gh)])), (oP, .inl (cJ, C, .inr (.inl (uN_up P (t - 1) ((va_cpy f g mid 0 (b - mid)) (z - 1)))))), (oA, .inl (cJ, (C / 2), .inr (.inl (va_cpy f g mid 0 (b - mid)))))] := hD
            refine lv_iinc (v := nI (z - 1) - nI 1) (lv' := [(6, .int (nI (z - 1) - nI 1)), (5, .int (nI q - nI 1)), (7, .int (nI t - nI 1)), (4, .int (nI (b - mid))), (0, .ref o), (1, .int (nI a)), (2, .int (nI mid)), (3, .int (nI b))]) hx hb dX1_mergeBackward_104 hl (k := 1) rfl (zMd (by omega)) (by decide) rfl (fun ls hl => ?_)
            refine lv_iinc (v := nI (t - 1) - nI 1) (lv' := [(7, .int (nI (t - 1) - nI 1)), (6, .int (nI (z - 1) - nI 1)), (5, .int (nI q - nI 1)), (4, .int (nI (b - mid))), (0, .ref o), (1, .int (nI a)), (2, .int (nI mid)), (3, .int (nI b))]) hx hb dX1_mergeBackward_107 hl (k := 2) rfl (zMd (by omega)) (by decide) rfl (fun ls hl => ?_)
            refine lv_goto (tgt := 36) hx hb dX1_mergeBackward_110 (by decide) ?_
            exact ih_b (uN_up P (t - 1) ((va_cpy f g mid 0 (b - mid)) (z - 1))) q (z - 1) (t - 1) hNew (by omega) _ _ _ hP hD hS (lv_sub hl [2, 1, 0, 3, 4, 5, 6, 7] rfl)
          · have hk : ky ((va_cpy f g mid 0 (b - mid)) (z - 1)) < ky (P (q - 1)) := Int.not_le.mp (fun x => c_67 (Int32.le_iff_toInt_le.mpr x))
            have hNew : mbI ky f (va_cpy f g mid 0 (b - mid)) (uN_up P (t - 1) (P (q - 1))) a mid b (q - 1) z (t - 1) := by
              rw [hPp] at hk ⊢
              refine mb_A hs1 hs2 (by rw [show q - 1 + 1 = q by omega]; exact hI2) (by omega) (fun i g1 => ?_)
              by_cases hi : i = z - 1
              · rw [hi]; exact hk
              · rw [hAs i (by omega)]
                rw [hAs (z - 1) (by omega)] at hk
                exact Int.lt_of_le_of_lt (hs2 (mid + i) (mid + (z - 1)) (by omega) (by omega) (by omega)) hk
            refine lv_aload_n hx hb dX1_mergeBackward_70 rfl (lv_at hl 4 rfl) ?_
            refine va_get (D := (dC, dI)) (ci := 1) (v := .ref oP) (C := RX1) (T := TX1) (N := 9) hx hb hts hin_1 hown hK hP 0 rfl rfl 0 (by decide) k_1 (fun _ h9 => h9) rfl dX1_mergeBackward_71 ?_
            refine lv_iload hx hb dX1_mergeBackward_74 (lv_at hl 2 rfl) ?_
            refine xr_top (y := nI (t - 1)) (pk_sub (by omega)) ?_
            refine lv_aload_n hx hb dX1_mergeBackward_76 rfl (lv_at hl 4 rfl) ?_
            refine va_get (D := (dC, dI)) (ci := 1) (v := .ref oP) (C := RX1) (T := TX1) (N := 9) hx hb hts hin_1 hown hK hP 0 rfl rfl 0 (by decide) k_1 (fun _ h9 => h9) rfl dX1_mergeBackward_77 ?_
            refine lv_iload hx hb dX1_mergeBackward_80 (lv_at hl 0 rfl) ?_
            refine xr_top (y := nI (q - 1)) (pk_sub (by omega)) ?_
            refine xr_lald hx hb hK hP 1 0 rfl rfl (by omega) (by omega) dX1_mergeBackward_82 ?_
            refine xr_last hx hb hK hP hD hS 1 0 rfl rfl (by omega) (by omega) dX1_mergeBackward_83 (fun H locs hP hD hS => ?_)
            have hP : va_P (dC, dI) vwCl [(o, .inr (1, [.ref oP, .int (nI n), .ref oA, .ref oL, .ref oR, .int (nI ru), .int (nI me), .long mp, .int (nI gh)])), (oP, .inl (cJ, C, .inr (.inl (uN_up P (t - 1) (P (q - 1)))))), (oA, .inl (cJ, (C / 2), .inr (.inl (va_cpy f g mid 0 (b - mid)))))] H := hP
            have hD : va_D A [(o, .inr (1, [.ref oP, .int (nI n), .ref oA, .ref oL, .ref oR, .int (nI ru), .int (nI me), .long mp, .int (nI gh)])), (oP, .inl (cJ, C, .inr (.inl (uN_up P (t - 1) (P (q - 1)))))), (oA, .inl (cJ, (C / 2), .inr (.inl (va_cpy f g mid 0 (b - mid)))))] := hD
            refine lv_iinc (v := nI (q - 1) - nI 1) (lv' := [(5, .int (nI (q - 1) - nI 1)), (6, .int (nI z - nI 1)), (7, .int (nI t - nI 1)), (4, .int (nI (b - mid))), (0, .ref o), (1, .int (nI a)), (2, .int (nI mid)), (3, .int (nI b))]) hx hb dX1_mergeBackward_84 hl (k := 0) rfl (zMd (by omega)) (by decide) rfl (fun ls hl => ?_)
            refine lv_goto (tgt := 107) hx hb dX1_mergeBackward_87 (by decide) ?_
            refine lv_iinc (v := nI (t - 1) - nI 1) (lv' := [(7, .int (nI (t - 1) - nI 1)), (5, .int (nI (q - 1) - nI 1)), (6, .int (nI z - nI 1)), (4, .int (nI (b - mid))), (0, .ref o), (1, .int (nI a)), (2, .int (nI mid)), (3, .int (nI b))]) hx hb dX1_mergeBackward_107 hl (k := 2) rfl (zMd (by omega)) (by decide) rfl (fun ls hl => ?_)
            refine lv_goto (tgt := 36) hx hb dX1_mergeBackward_110 (by decide) ?_
            exact ih_b (uN_up P (t - 1) (P (q - 1))) (q - 1) z (t - 1) hNew (by omega) _ _ _ hP hD hS (lv_sub hl [1, 2, 0, 3, 4, 5, 6, 7] rfl)
  exact L_b (_ + 1) f mid (b - mid) b (mb_init h1 h2 (fun i hi => by rw [pk_cpy_in (Nat.zero_le _) (by omega), Nat.sub_zero])) (Nat.lt_succ_self _) _ _ _ hP hD hS (lv_sub hl [2, 1, 0, 3, 4, 5, 6, 7] rfl)

abbrev rmX2_combine : Room := { frames := 0, cells := 0, slots := 0, locals := 0 }
set_option maxRecDepth 100000 in
set_option maxHeartbeats 4000000 in
theorem c_X2_combine (l : Launch) (dC : Nat → ClassId) (dI : Nat → Nat → Nat) (cJ cI : ClassId) (m0 mK mT mU mV mL mS th cap n hi ru me mp pd ht : Nat) (K T U V : Nat → Int32) (a mid b : Nat) (h1 : a ≤ mid) (h2 : mid ≤ b) (h3 : b ≤ 4096) (hs1 : so k2 (prF K T) a mid) (hs2 : so k2 (prF K T) mid b) : CV l yX2_combine wsX2_combine rmX2_combine [.ref m0, .int (nI a), .int (nI mid), .int (nI b)] (dC, dI) vwCl (KT cJ cI) [(m0, .inr (2, [.int (nI th), .int (nI cap), .ref mK, .ref mT, .ref mU, .ref mV, .int (nI n), .int (nI hi), .int (nI ru), .ref mL, .int (nI me), .long (lN mp), .ref mS, .int (nI pd), .int (nI ht)])), (mK, .inl (cI, 4096, .inl K)), (mT, .inl (cI, 4096, .inl T)), (mU, .inl (cI, 4096, .inl U)), (mV, .inl (cI, 4096, .inl V))] (S := (Nat → Int32) × (Nat → Int32) × (Nat → Int32) × (Nat → Int32)) (fun u => okq k2 (prF K T) (prF u.1 u.2.1) a b) (fun _ => KT cJ cI) (fun u => [(m0, .inr (2, [.int (nI th), .int (nI cap), .ref mK, .ref mT, .ref mU, .ref mV, .int (nI n), .int (nI hi), .int (nI ru), .ref mL, .int (nI me), .long (lN mp), .ref mS, .int (nI pd), .int (nI ht)])), (mK, .inl (cI, 4096, .inl u.1)), (mT, .inl (cI, 4096, .inl u.2.1)), (mU, .inl (cI, 4096, .inl u.2.2.1)), (mV, .inl (cI, 4096, .inl u.2.2.2))]) := by
  refine CV.mk (by decide) rfl (Nat.le_of_ble_eq_true rfl) ?_
  intro p e s m args below meth c A Q ls hx hb hml hown hts hin hA hS hP hD hK hN hl hret
  have hl : lv_has ls 8 [(0, .ref m0), (1, .int (nI a)), (2, .int (nI mid)), (3, .int (nI b))] := hl
  have hin_2 : ∀ w ∈ u_ws RX2 TX2 15, w ∈ wsX2_combine := by decide +kernel
  have k_1 := hts (Cond.fieldLink RX2 7 "PairSorterModel" "keys" "[I") (by decide +kernel)
  have k_2 := hts (Cond.fieldLink RX2 16 "PairSorterModel" "otherKeys" "[I") (by decide +kernel)
  have k_3 := hts (Cond.fieldLink RX2 13 "PairSorterModel" "tags" "[I") (by decide +kernel)
  have k_4 := hts (Cond.fieldLink RX2 19 "PairSorterModel" "otherTags" "[I") (by decide +kernel)
  refine lv_iload_n hx hb dX2_combine_0 rfl (lv_at hl 1 rfl) ?_
  refine lv_istore (lv' := [(4, .int (nI a)), (0, .ref m0), (1, .int (nI a)), (2, .int (nI mid)), (3, .int (nI b))]) hx hb dX2_combine_1 hl (by decide) rfl (fun ls hl => ?_)
  refine lv_iload_n hx hb dX2_combine_3 rfl (lv_at hl 3 rfl) ?_
  refine lv_istore (lv' := [(5, .int (nI mid)), (4, .int (nI a)), (0, .ref m0), (1, .int (nI a)), (2, .int (nI mid)), (3, .int (nI b))]) hx hb dX2_combine_4 hl (by decide) rfl (fun ls hl => ?_)
  refine lv_iload_n hx hb dX2_combine_6 rfl (lv_at hl 3 rfl) ?_
  refine lv_istore (lv' := [(6, .int (nI a)), (5, .int (nI mid)), (4, .int (nI a)), (0, .ref m0), (1, .int (nI a)), (2, .int (nI mid)), (3, .int (nI b))]) hx hb dX2_combine_7 hl (by decide) rfl (fun ls hl => ?_)
  have L_c : ∀ (kq : Nat) (U2 V2 : Nat → Int32) (x1 y1 k1 : Nat), (cmI k2 (prF K T) (prF U2 V2) a mid b x1 y1 k1) → b - k1 < kq → ∀ (H : Heap) (locs : List Loc) (ls : Array Slot), va_P (dC, dI) vwCl [(m0, .inr (2, [.int (nI th), .int (nI cap), .ref mK, .ref mT, .ref mU, .ref mV, .int (nI n), .int (nI hi), .int (nI ru), .ref mL, .int (nI me), .long (lN mp), .ref mS, .int (nI pd), .int (nI ht)])), (mK, .inl (cI, 4096, .inl K)), (mT, .inl (cI, 4096, .inl T)), (mU, .inl (cI, 4096, .inl U2)), (mV, .inl (cI, 4096, .inl V2))] H → va_D A [(m0, .inr (2, [.int (nI th), .int (nI cap), .ref mK, .ref mT, .ref mU, .ref mV, .int (nI n), .int (nI hi), .int (nI ru), .ref mL, .int (nI me), .long (lN mp), .ref mS, .int (nI pd), .int (nI ht)])), (mK, .inl (cI, 4096, .inl K)), (mT, .inl (cI, 4096, .inl T)), (mU, .inl (cI, 4096, .inl U2)), (mV, .inl (cI, 4096, .inl V2))] → va_S A s.heap H locs → lv_has ls 8 [(4, .int (nI x1)), (5, .int (nI y1)), (6, .int (nI k1)), (0, .ref m0), (1, .int (nI a)), (2, .int (nI mid)), (3, .int (nI b))] → W p l e rmX2_combine s m args below meth c H locs 0 0 Q (F0 m 9 ls []) := by
    intro kq
    induction kq with
    | zero =>
      intro U2 V2 x1 y1 k1 hI hm
      exact absurd hm (Nat.not_lt_zero _)
    | succ kq ih_c =>
      intro U2 V2 x1 y1 k1 hI hm H locs ls hP hD hS hl
      obtain ⟨i1, i2, i3, i4, i5⟩ := id hI.1
      refine lv_iload hx hb dX2_combine_9 (lv_at hl 2 rfl) ?_
      refine lv_iload_n hx hb dX2_combine_11 rfl (lv_at hl 6 rfl) ?_
      refine xr_icmp_ge (tgt := 147) hx hb dX2_combine_12 (by decide) (by omega) (by omega) (fun c_12 => ?_) (fun c_12 => ?_)
      · have hk9 : k1 = b := by omega
        refine lv_iload_n hx hb dX2_combine_147 rfl (lv_at hl 4 rfl) ?_
        refine lv_istore (lv' := [(6, .int (nI a)), (4, .int (nI x1)), (5, .int (nI y1)), (0, .ref m0), (1, .int (nI a)), (2, .int (nI mid)), (3, .int (nI b))]) hx hb dX2_combine_148 hl (by decide) rfl (fun ls hl => ?_)
        have L_d : ∀ (kq : Nat) (i : Nat), (a + i ≤ b) → b - (a + i) < kq → ∀ (H : Heap) (locs : List Loc) (ls : Array Slot), va_P (dC, dI) vwCl [(m0, .inr (2, [.int (nI th), .int (nI cap), .ref mK, .ref mT, .ref mU, .ref mV, .int (nI n), .int (nI hi), .int (nI ru), .ref mL, .int (nI me), .long (lN mp), .ref mS, .int (nI pd), .int (nI ht)])), (mK, .inl (cI, 4096, .inl (gF K a (fun j => U2 (a + j)) i))), (mT, .inl (cI, 4096, .inl (gF T a (fun j => V2 (a + j)) i))), (mU, .inl (cI, 4096, .inl U2)), (mV, .inl (cI, 4096, .inl V2))] H → va_D A [(m0, .inr (2, [.int (nI th), .int (nI cap), .ref mK, .ref mT, .ref mU, .ref mV, .int (nI n), .int (nI hi), .int (nI ru), .ref mL, .int (nI me), .long (lN mp), .ref mS, .int (nI pd), .int (nI ht)])), (mK, .inl (cI, 4096, .inl (gF K a (fun j => U2 (a + j)) i))), (mT, .inl (cI, 4096, .inl (gF T a (fun j => V2 (a + j)) i))), (mU, .inl (cI, 4096, .inl U2)), (mV, .inl (cI, 4096, .inl V2))] → va_S A s.heap H locs → lv_has ls 8 [(6, .int (nI (a + i))), (0, .ref m0), (1, .int (nI a)), (2, .int (nI mid)), (3, .int (nI b))] → W p l e rmX2_combine s m args below meth c H locs 0 0 Q (F0 m 150 ls []) := by
          intro kq
          induction kq with
          | zero =>
            intro i hi1 hm
            exact absurd hm (Nat.not_lt_zero _)
          | succ kq ih_d =>
            intro i hi1 hm H locs ls hP hD hS hl
            refine lv_iload hx hb dX2_combine_150 (lv_at hl 0 rfl) ?_
            refine lv_iload_n hx hb dX2_combine_152 rfl (lv_at hl 4 rfl) ?_
            refine xr_icmp_ge (tgt := 190) hx hb dX2_combine_153 (by decide) (by omega) (by omega) (fun c_153 => ?_) (fun c_153 => ?_)
            · have hok : okq k2 (prF K T) (prF (gF K a (fun j => U2 (a + j)) i) (gF T a (fun j => V2 (a + j)) i)) a b := cm_end (hk9 ▸ hI) (fun j hj => by unfold prF; rw [gF_out (by omega), gF_out (by omega)]) (fun j q1 q2 => by unfold prF; rw [gF_in q1 (by omega), gF_in q1 (by omega), show a + (j - a) = j by omega])
              exact hret (gF K a (fun j => U2 (a + j)) i, gF T a (fun j => V2 (a + j)) i, U2, V2) _ _ _ _ _ _ (hok) hP hK hD hS (Nat.le_of_ble_eq_true rfl) (Nat.le_of_ble_eq_true rfl) dX2_combine_190
            · refine lv_aload_n hx hb dX2_combine_156 rfl (lv_at hl 1 rfl) ?_
              refine va_get (D := (dC, dI)) (ci := 2) (v := .ref mK) (C := RX2) (T := TX2) (N := 15) hx hb hts hin_2 hown hK hP 0 rfl rfl 2 (by decide) k_1 (fun _ h9 => h9) rfl dX2_combine_157 ?_
              refine lv_iload hx hb dX2_combine_160 (lv_at hl 0 rfl) ?_
              refine lv_aload_n hx hb dX2_combine_162 rfl (lv_at hl 1 rfl) ?_
              refine va_get (D := (dC, dI)) (ci := 2) (v := .ref mU) (C := RX2) (T := TX2) (N := 15) hx hb hts hin_2 hown hK hP 0 rfl rfl 4 (by decide) k_2 (fun _ h9 => h9) rfl dX2_combine_163 ?_
              refine lv_iload hx hb dX2_combine_166 (lv_at hl 0 rfl) ?_
              refine xr_iald hx hb hK hP 3 1 rfl rfl (by omega) (by omega) dX2_combine_168 ?_
              refine xr_iast hx hb hK hP hD hS 1 1 rfl rfl (by omega) (by omega) dX2_combine_169 (fun H locs hP hD hS => ?_)
              have hP : va_P (dC, dI) vwCl [(m0, .inr (2, [.int (nI th), .int (nI cap), .ref mK, .ref mT, .ref mU, .ref mV, .int (nI n), .int (nI hi), .int (nI ru), .ref mL, .int (nI me), .long (lN mp), .ref mS, .int (nI pd), .int (nI ht)])), (mK, .inl (cI, 4096, .inl (uN_up (gF K a (fun j => U2 (a + j)) i) (a + i) (U2 (a + i))))), (mT, .inl (cI, 4096, .inl (gF T a (fun j => V2 (a + j)) i))), (mU, .inl (cI, 4096, .inl U2)), (mV, .inl (cI, 4096, .inl V2))] H := hP
              have hD : va_D A [(m0, .inr (2, [.int (nI th), .int (nI cap), .ref mK, .ref mT, .ref mU, .ref mV, .int (nI n), .int (nI hi), .int (nI ru), .ref mL, .int (nI me), .long (lN mp), .ref mS, .int (nI pd), .int (nI ht)])), (mK, .inl (cI, 4096, .inl (uN_up (gF K a (fun j => U2 (a + j)) i) (a + i) (U2 (a + i))))), (mT, .inl (cI, 4096, .inl (gF T a (fun j => V2 (a + j)) i))), (mU, .inl (cI, 4096, .inl U2)), (mV, .inl (cI, 4096, .inl V2))] := hD
              refine lv_aload_n hx hb dX2_combine_170 rfl (lv_at hl 1 rfl) ?_
              refine va_get (D := (dC, dI)) (ci := 2) (v := .ref mT) (C := RX2) (T := TX2) (N := 15) hx hb hts hin_2 hown hK hP 0 rfl rfl 3 (by decide) k_3 (fun _ h9 => h9) rfl dX2_combine_171 ?_
              refine lv_iload hx hb dX2_combine_174 (lv_at hl 0 rfl) ?_
              refine lv_aload_n hx hb dX2_combine_176 rfl (lv_at hl 1 rfl) ?_
              refine va_get (D := (dC, dI)) (ci := 2) (v := .ref mV) (C := RX2) (T := TX2) (N := 15) hx hb hts hin_2 hown hK hP 0 rfl rfl 5 (by decide) k_4 (fun _ h9 => h9) rfl dX2_combine_177 ?_
              refine lv_iload hx hb dX2_combine_180 (lv_at hl 0 rfl) ?_
              refine xr_iald hx hb hK hP 4 1 rfl rfl (by omega) (by omega) dX2_combine_182 ?_
              refine xr_iast hx hb hK hP hD hS 2 1 rfl rfl (by omega) (by omega) dX2_combine_183 (fun H locs hP hD hS => ?_)
              have hP : va_P (dC, dI) vwCl [(m0, .inr (2, [.int (nI th), .int (nI cap), .ref mK, .ref mT, .ref mU, .ref mV, .int (nI n), .int (nI hi), .int (nI ru), .ref mL, .int (nI me), .long (lN mp), .ref mS, .int (nI pd), .int (nI ht)])), (mK, .inl (cI, 4096, .inl (uN_up (gF K a (fun j => U2 (a + j)) i) (a + i) (U2 (a + i))))), (mT, .inl (cI, 4096, .inl (uN_up (gF T a (fun j => V2 (a + j)) i) (a + i) (V2 (a + i))))), (mU, .inl (cI, 4096, .inl U2)), (mV, .inl (cI, 4096, .inl V2))] H := hP
              have hD : va_D A [(m0, .inr (2, [.int (nI th), .int (nI cap), .ref mK, .ref mT, .ref mU, .ref mV, .int (nI n), .int (nI hi), .int (nI ru), .ref mL, .int (nI me), .long (lN mp), .ref mS, .int (nI pd), .int (nI ht)])), (mK, .inl (cI, 4096, .inl (uN_up (gF K a (fun j => U2 (a + j)) i) (a + i) (U2 (a + i))))), (mT, .inl (cI, 4096, .inl (uN_up (gF T a (fun j => V2 (a + j)) i) (a + i) (V2 (a + i))))), (mU, .inl (cI, 4096, .inl U2)), (mV, .inl (cI, 4096, .inl V2))] := hD
              refine lv_iinc (v := nI (a + i + 1)) (lv' := [(6, .int (nI (a + i + 1))), (0, .ref m0), (1, .int (nI a)), (2, .int (nI mid)), (3, .int (nI b))]) hx hb dX2_combine_184 hl (k := 0) rfl (nI_add (a + i) 1) (by decide) rfl (fun ls hl => ?_)
              refine lv_goto (tgt := 150) hx hb dX2_combine_187 (by decide) ?_
              exact ih_d (i + 1) (by omega) (by omega) _ _ _ (by rw [← gF_s K a (fun j => U2 (a + j)) i, ← gF_s T a (fun j => V2 (a + j)) i]; exact hP) (by rw [← gF_s K a (fun j => U2 (a + j)) i, ← gF_s T a (fun j => V2 (a + j)) i]; exact hD) hS (lv_sub hl [0, 1, 2, 3, 4] rfl)
        exact L_d (_ + 1) 0 (by omega) (Nat.lt_succ_self _) _ _ _ (by rw [gF_0, gF_0]; exact hP) (by rw [gF_0, gF_0]; exact hD) hS (lv_sub hl [0, 3, 4, 5, 6] rfl)
      · refine lv_iload hx hb dX2_combine_15 (lv_at hl 1 rfl) ?_
        refine lv_iload_n hx hb dX2_combine_17 rfl (lv_at hl 6 rfl) ?_
        refine xr_icmp_eq (tgt := 44) hx hb dX2_combine_18 (by decide) (by omega) (by omega) (fun c_18 => ?_) (fun c_18 => ?_)
        · have hNew := cm_A hs1 hs2 hI (by omega) (fun q => absurd q (by omega))
          refine lv_iconst (v := nI 1) hx hb dX2_combine_44 (by decide) ?_
          refine lv_goto (tgt := 49) hx hb dX2_combine_45 (by decide) ?_
          refine lv_istore (lv' := [(7, .int (nI 1)), (4, .int (nI x1)), (5, .int (nI y1)), (6, .int (nI k1)), (0, .ref m0), (1, .int (nI a)), (2, .int (nI mid)), (3, .int (nI b))]) hx hb dX2_combine_49 hl (by decide) rfl (fun ls hl => ?_)
          refine lv_aload_n hx hb dX2_combine_51 rfl (lv_at hl 4 rfl) ?_
          refine va_get (D := (dC, dI)) (ci := 2) (v := .ref mU) (C := RX2) (T := TX2) (N := 15) hx hb hts hin_2 hown hK hP 0 rfl rfl 4 (by decide) k_2 (fun _ h9 => h9) rfl dX2_combine_52 ?_
          refine lv_iload hx hb dX2_combine_55 (lv_at hl 3 rfl) ?_
          refine lv_iload hx hb dX2_combine_57 (lv_at hl 0 rfl) ?_
          refine xr_if_eq (tgt := 72) hx hb dX2_combine_59 (by decide) (by decide) (fun c9 => absurd c9 (by decide)) (fun _ => ?_)
          refine lv_aload_n hx hb dX2_combine_62 rfl (lv_at hl 4 rfl) ?_
          refine va_get (D := (dC, dI)) (ci := 2) (v := .ref mK) (C := RX2) (T := TX2) (N := 15) hx hb hts hin_2 hown hK hP 0 rfl rfl 2 (by decide) k_1 (fun _ h9 => h9) rfl dX2_combine_63 ?_
          refine lv_iload hx hb dX2_combine_66 (lv_at hl 1 rfl) ?_
          refine xr_iald hx hb hK hP 1 1 rfl rfl (by omega) (by omega) dX2_combine_68 ?_
          refine lv_goto (tgt := 79) hx hb dX2_combine_69 (by decide) ?_
          refine xr_iast hx hb hK hP hD hS 3 1 rfl rfl (by omega) (by omega) dX2_combine_79 (fun H locs hP hD hS => ?_)
          have hP : va_P (dC, dI) vwCl [(m0, .inr (2, [.int (nI th), .int (nI cap), .ref mK, .ref mT, .ref mU, .ref mV, .int (nI n), .int (nI hi), .int (nI ru), .ref mL, .int (nI me), .long (lN mp), .ref mS, .int (nI pd), .int (nI ht)])), (mK, .inl (cI, 4096, .inl K)), (mT, .inl (cI, 4096, .inl T)), (mU, .inl (cI, 4096, .inl (uN_up U2 k1 (K x1)))), (mV, .inl (cI, 4096, .inl V2))] H := hP
          have hD : va_D A [(m0, .inr (2, [.int (nI th), .int (nI cap), .ref mK, .ref mT, .ref mU, .ref mV, .int (nI n), .int (nI hi), .int (nI ru), .ref mL, .int (nI me), .long (lN mp), .ref mS, .int (nI pd), .int (nI ht)])), (mK, .inl (cI, 4096, .inl K)), (mT, .inl (cI, 4096, .inl T)), (mU, .inl (cI, 4096, .inl (uN_up U2 k1 (K x1)))), (mV, .inl (cI, 4096, .inl V2))] := hD
          refine lv_aload_n hx hb dX2_combine_80 rfl (lv_at hl 4 rfl) ?_
          refine va_get (D := (dC, dI)) (ci := 2) (v := .ref mV) (C := RX2) (T := TX2) (N := 15) hx hb hts hin_2 hown hK hP 0 rfl rfl 5 (by decide) k_4 (fun _ h9 => h9) rfl dX2_combine_81 ?_
          refine lv_iload hx hb dX2_combine_84 (lv_at hl 3 rfl) ?_
          refine lv_iload hx hb dX2_combine_86 (lv_at hl 0 rfl) ?_
          refine xr_if_eq (tgt := 101) hx hb dX2_combine_88 (by decide) (by decide) (fun c9 => absurd c9 (by decide)) (fun _ => ?_)
          refine lv_aload_n hx hb dX2_combine_91 rfl (lv_at hl 4 rfl) ?_
          refine va_get (D := (dC, dI)) (ci := 2) (v := .ref mT) (C := RX2) (T := TX2) (N := 15) hx hb hts hin_2 hown hK hP 0 rfl rfl 3 (by decide) k_3 (fun _ h9 => h9) rfl dX2_combine_92 ?_
          refine lv_iload hx hb dX2_combine_95 (lv_at hl 1 rfl) ?_
          refine xr_iald hx hb hK hP 2 1 rfl rfl (by omega) (by omega) dX2_combine_97 ?_
          refine lv_goto (tgt := 108) hx hb dX2_combine_98 (by decide) ?_
          refine xr_iast hx hb hK hP hD hS 4 1 rfl rfl (by omega) (by omega) dX2_combine_108 (fun H locs hP hD hS => ?_)
          have hP : va_P (dC, dI) vwCl [(m0, .inr (2, [.int (nI th), .int (nI cap), .ref mK, .ref mT, .ref mU, .ref mV, .int (nI n), .int (nI hi), .int (nI ru), .ref mL, .int (nI me), .long (lN mp), .ref mS, .int (nI pd), .int (nI ht)])), (mK, .inl (cI, 4096, .inl K)), (mT, .inl (cI, 4096, .inl T)), (mU, .inl (cI, 4096, .inl (uN_up U2 k1 (K x1)))), (mV, .inl (cI, 4096, .inl (uN_up V2 k1 (T x1))))] H := hP
          have hD : va_D A [(m0, .inr (2, [.int (nI th), .int (nI cap), .ref mK, .ref mT, .ref mU, .ref mV, .int (nI n), .int (nI hi), .int (nI ru), .ref mL, .int (nI me), .long (lN mp), .ref mS, .int (nI pd), .int (nI ht)])), (mK, .inl (cI, 4096, .inl K)), (mT, .inl (cI, 4096, .inl T)), (mU, .inl (cI, 4096, .inl (uN_up U2 k1 (K x1)))), (mV, .inl (cI, 4096, .inl (uN_up V2 k1 (T x1))))] := hD
          refine lv_iload hx hb dX2_combine_109 (lv_at hl 0 rfl) ?_
          refine xr_if_eq (tgt := 121) hx hb dX2_combine_111 (by decide) (by decide) (fun c9 => absurd c9 (by decide)) (fun _ => ?_)
          refine lv_iload hx hb dX2_combine_114 (lv_at hl 1 rfl) ?_
          refine lv_iconst (v := nI 1) hx hb dX2_combine_116 (by decide) ?_
          refine xr_iadd hx hb dX2_combine_117 ?_
          refine lv_goto (tgt := 123) hx hb dX2_combine_118 (by decide) ?_
          refine lv_istore (lv' := [(4, .int (nI (x1 + 1))), (7, .int (nI 1)), (5, .int (nI y1)), (6, .int (nI k1)), (0, .ref m0), (1, .int (nI a)), (2, .int (nI mid)), (3, .int (nI b))]) hx hb dX2_combine_123 hl (by decide) rfl (fun ls hl => ?_)
          refine lv_iload hx hb dX2_combine_125 (lv_at hl 1 rfl) ?_
          refine xr_if_eq (tgt := 135) hx hb dX2_combine_127 (by decide) (by decide) (fun c9 => absurd c9 (by decide)) (fun _ => ?_)
          refine lv_iload hx hb dX2_combine_130 (lv_at hl 2 rfl) ?_
          refine lv_goto (tgt := 139) hx hb dX2_combine_132 (by decide) ?_
          refine lv_istore (lv' := [(5, .int (nI y1)), (4, .int (nI (x1 + 1))), (7, .int (nI 1)), (6, .int (nI k1)), (0, .ref m0), (1, .int (nI a)), (2, .int (nI mid)), (3, .int (nI b))]) hx hb dX2_combine_139 hl (by decide) rfl (fun ls hl => ?_)
          refine lv_iinc (v := nI (k1 + 1)) (lv' := [(6, .int (nI (k1 + 1))), (5, .int (nI y1)), (4, .int (nI (x1 + 1))), (7, .int (nI 1)), (0, .ref m0), (1, .int (nI a)), (2, .int (nI mid)), (3, .int (nI b))]) hx hb dX2_combine_141 hl (k := 3) rfl (nI_add k1 1) (by decide) rfl (fun ls hl => ?_)
          refine lv_goto (tgt := 9) hx hb dX2_combine_144 (by decide) ?_
          exact ih_c (uN_up U2 k1 (K x1)) (uN_up V2 k1 (T x1)) (x1 + 1) y1 (k1 + 1) (by rw [prF_up]; exact hNew) (by omega) _ _ _ hP hD hS (lv_sub hl [2, 1, 0, 4, 5, 6, 7] rfl)
        · refine lv_iload hx hb dX2_combine_21 (lv_at hl 0 rfl) ?_
          refine lv_iload_n hx hb dX2_combine_23 rfl (lv_at hl 5 rfl) ?_
          refine xr_icmp_ge (tgt := 48) hx hb dX2_combine_24 (by decide) (by omega) (by omega) (fun c_24 => ?_) (fun c_24 => ?_)
          · have hNew := cm_B hs1 hs2 hI (by omega) (fun q => absurd q (by omega))
            refine lv_iconst (v := nI 0) hx hb dX2_combine_48 (by decide) ?_
            refine lv_istore (lv' := [(7, .int (nI 0)), (4, .int (nI x1)), (5, .int (nI y1)), (6, .int (nI k1)), (0, .ref m0), (1, .int (nI a)), (2, .int (nI mid)), (3, .int (nI b))]) hx hb dX2_combine_49 hl (by decide) rfl (fun ls hl => ?_)
            refine lv_aload_n hx hb dX2_combine_51 rfl (lv_at hl 4 rfl) ?_
            refine va_get (D := (dC, dI)) (ci := 2) (v := .ref mU) (C := RX2) (T := TX2) (N := 15) hx hb hts hin_2 hown hK hP 0 rfl rfl 4 (by decide) k_2 (fun _ h9 => h9) rfl dX2_combine_52 ?_
            refine lv_iload hx hb dX2_combine_55 (lv_at hl 3 rfl) ?_
            refine lv_iload hx hb dX2_combine_57 (lv_at hl 0 rfl) ?_
            refine xr_if_eq (tgt := 72) hx hb dX2_combine_59 (by decide) (by decide) (fun _ => ?_) (fun c9 => absurd c9 (by decide))
            refine lv_aload_n hx hb dX2_combine_72 rfl (lv_at hl 4 rfl) ?_
            refine va_get (D := (dC, dI)) (ci := 2) (v := .ref mK) (C := RX2) (T := TX2) (N := 15) hx hb hts hin_2 hown hK hP 0 rfl rfl 2 (by decide) k_1 (fun _ h9 => h9) rfl dX2_combine_73 ?_
            refine lv_iload hx hb dX2_combine_76 (lv_at hl 2 rfl) ?_
            refine xr_iald hx hb hK hP 1 1 rfl rfl (by omega) (by omega) dX2_combine_78 ?_
            refine xr_iast hx hb hK hP hD hS 3 1 rfl rfl (by omega) (by omega) dX2_combine_79 (fun H locs hP hD hS => ?_)
            have hP : va_P (dC, dI) vwCl [(m0, .inr (2, [.int (nI th), .int (nI cap), .ref mK, .ref mT, .ref mU, .ref mV, .int (nI n), .int (nI hi), .int (nI ru), .ref mL, .int (nI me), .long (lN mp), .ref mS, .int (nI pd), .int (nI ht)])), (mK, .inl (cI, 4096, .inl K)), (mT, .inl (cI, 4096, .inl T)), (mU, .inl (cI, 4096, .inl (uN_up U2 k1 (K y1)))), (mV, .inl (cI, 4096, .inl V2))] H := hP
            have hD : va_D A [(m0, .inr (2, [.int (nI th), .int (nI cap), .ref mK, .ref mT, .ref mU, .ref mV, .int (nI n), .int (nI hi), .int (nI ru), .ref mL, .int (nI me), .long (lN mp), .ref mS, .int (nI pd), .int (nI ht)])), (mK, .inl (cI, 4096, .inl K)), (mT, .inl (cI, 4096, .inl T)), (mU, .inl (cI, 4096, .inl (uN_up U2 k1 (K y1)))), (mV, .inl (cI, 4096, .inl V2))] := hD
            refine lv_aload_n hx hb dX2_combine_80 rfl (lv_at hl 4 rfl) ?_
            refine va_get (D := (dC, dI)) (ci := 2) (v := .ref mV) (C := RX2) (T := TX2) (N := 15) hx hb hts hin_2 hown hK hP 0 rfl rfl 5 (by decide) k_4 (fun _ h9 => h9) rfl dX2_combine_81 ?_
            refine lv_iload hx hb dX2_combine_84 (lv_at hl 3 rfl) ?_
            refine lv_iload hx hb dX2_combine_86 (lv_at hl 0 rfl) ?_
            refine xr_if_eq (tgt := 101) hx hb dX2_combine_88 (by decide) (by decide) (fun _ => ?_) (fun c9 => absurd c9 (by decide))
            refine lv_aload_n hx hb dX2_combine_101 rfl (lv_at hl 4 rfl) ?_
            refine va_get (D := (dC, dI)) (ci := 2) (v := .ref mT) (C := RX2) (T := TX2) (N := 15) hx hb hts hin_2 hown hK hP 0 rfl rfl 3 (by decide) k_3 (fun _ h9 => h9) rfl dX2_combine_102 ?_
            refine lv_iload hx hb dX2_combine_105 (lv_at hl 2 rfl) ?_
            refine xr_iald hx hb hK hP 2 1 rfl rfl (by omega) (by omega) dX2_combine_107 ?_
            refine xr_iast hx hb hK hP hD hS 4 1 rfl rfl (by omega) (by omega) dX2_combine_108 (fun H locs hP hD hS => ?_)
            have hP : va_P (dC, dI) vwCl [(m0, .inr (2, [.int (nI th), .int (nI cap), .ref mK, .ref mT, .ref mU, .ref mV, .int (nI n), .int (nI hi), .int (nI ru), .ref mL, .int (nI me), .long (lN mp), .ref mS, .int (nI pd), .int (nI ht)])), (mK, .inl (cI, 4096, .inl K)), (mT, .inl (cI, 4096, .inl T)), (mU, .inl (cI, 4096, .inl (uN_up U2 k1 (K y1)))), (mV, .inl (cI, 4096, .inl (uN_up V2 k1 (T y1))))] H := hP
            have hD : va_D A [(m0, .inr (2, [.int (nI th), .int (nI cap), .ref mK, .ref mT, .ref mU, .ref mV, .int (nI n), .int (nI hi), .int (nI ru), .ref mL, .int (nI me), .long (lN mp), .ref mS, .int (nI pd), .int (nI ht)])), (mK, .inl (cI, 4096, .inl K)), (mT, .inl (cI, 4096, .inl T)), (mU, .inl (cI, 4096, .inl (uN_up U2 k1 (K y1)))), (mV, .inl (cI, 4096, .inl (uN_up V2 k1 (T y1))))] := hD
            refine lv_iload hx hb dX2_combine_109 (lv_at hl 0 rfl) ?_
            refine xr_if_eq (tgt := 121) hx hb dX2_combine_111 (by decide) (by decide) (fun _ => ?_) (fun c9 => absurd c9 (by decide))
            refine lv_iload hx hb dX2_combine_121 (lv_at hl 1 rfl) ?_
            refine lv_istore (lv' := [(4, .int (nI x1)), (7, .int (nI 0)), (5, .int (nI y1)), (6, .int (nI k1)), (0, .ref m0), (1, .int (nI a)), (2, .int (nI mid)), (3, .int (nI b))]) hx hb dX2_combine_123 hl (by decide) rfl (fun ls hl => ?_)
            refine lv_iload hx hb dX2_combine_125 (lv_at hl 1 rfl) ?_
            refine xr_if_eq (tgt := 135) hx hb dX2_combine_127 (by decide) (by decide) (fun _ => ?_) (fun c9 => absurd c9 (by decide))
            refine lv_iload hx hb dX2_combine_135 (lv_at hl 2 rfl) ?_
            refine lv_iconst (v := nI 1) hx hb dX2_combine_137 (by decide) ?_
            refine xr_iadd hx hb dX2_combine_138 ?_
            refine lv_istore (lv' := [(5, .int (nI (y1 + 1))), (4, .int (nI x1)), (7, .int (nI 0)), (6, .int (nI k1)), (0, .ref m0), (1, .int (nI a)), (2, .int (nI mid)), (3, .int (nI b))]) hx hb dX2_combine_139 hl (by decide) rfl (fun ls hl => ?_)
            refine lv_iinc (v := nI (k1 + 1)) (lv' := [(6, .int (nI (k1 + 1))), (5, .int (nI (y1 + 1))), (4, .int (nI x1)), (7, .int (nI 0)), (0, .ref m0), (1, .int (nI a)), (2, .int (nI mid)), (3, .int (nI b))]) hx hb dX2_combine_141 hl (k := 3) rfl (nI_add k1 1) (by decide) rfl (fun ls hl => ?_)
            refine lv_goto (tgt := 9) hx hb dX2_combine_144 (by decide) ?_
            exact ih_c (uN_up U2 k1 (K y1)) (uN_up V2 k1 (T y1)) x1 (y1 + 1) (k1 + 1) (by rw [prF_up]; exact hNew) (by omega) _ _ _ hP hD hS (lv_sub hl [2, 1, 0, 4, 5, 6, 7] rfl)
          · refine lv_aload_n hx hb dX2_combine_27 rfl (lv_at hl 3 rfl) ?_
            refine va_get (D := (dC, dI)) (ci := 2) (v := .ref mK) (C := RX2) (T := TX2) (N := 15) hx hb hts hin_2 hown hK hP 0 rfl rfl 2 (by decide) k_1 (fun _ h9 => h9) rfl dX2_combine_28 ?_
            refine lv_iload hx hb dX2_combine_31 (lv_at hl 0 rfl) ?_
            refine xr_iald hx hb hK hP 1 1 rfl rfl (by omega) (by omega) dX2_combine_33 ?_
            refine lv_aload_n hx hb dX2_combine_34 rfl (lv_at hl 3 rfl) ?_
            refine va_get (D := (dC, dI)) (ci := 2) (v := .ref mK) (C := RX2) (T := TX2) (N := 15) hx hb hts hin_2 hown hK hP 0 rfl rfl 2 (by decide) k_1 (fun _ h9 => h9) rfl dX2_combine_35 ?_
            refine lv_iload hx hb dX2_combine_38 (lv_at hl 1 rfl) ?_
            refine xr_iald hx hb hK hP 1 1 rfl rfl (by omega) (by omega) dX2_combine_40 ?_
            refine lv_icmp_gt (tgt := 48) hx hb dX2_combine_41 (by decide) (fun c_41 => ?_) (fun c_41 => ?_)
            · have hNew := cm_B hs1 hs2 hI (by omega) (fun _ => Int32.lt_iff_toInt_lt.mp c_41)
              refine lv_iconst (v := nI 0) hx hb dX2_combine_48 (by decide) ?_
              refine lv_istore (lv' := [(7, .int (nI 0)), (4, .int (nI x1)), (5, .int (nI y1)), (6, .int (nI k1)), (0, .ref m0), (1, .int (nI a)), (2, .int (nI mid)), (3, .int (nI b))]) hx hb dX2_combine_49 hl (by decide) rfl (fun ls hl => ?_)
              refine lv_aload_n hx hb dX2_combine_51 rfl (lv_at hl 4 rfl) ?_
              refine va_get (D := (dC, dI)) (ci := 2) (v := .ref mU) (C := RX2) (T := TX2) (N := 15) hx hb hts hin_2 hown hK hP 0 rfl rfl 4 (by decide) k_2 (fun _ h9 => h9) rfl dX2_combine_52 ?_
              refine lv_iload hx hb dX2_combine_55 (lv_at hl 3 rfl) ?_
              refine lv_iload hx hb dX2_combine_57 (lv_at hl 0 rfl) ?_
              refine xr_if_eq (tgt := 72) hx hb dX2_combine_59 (by decide) (by decide) (fun _ => ?_) (fun c9 => absurd c9 (by decide))
              refine lv_aload_n hx hb dX2_combine_72 rfl (lv_at hl 4 rfl) ?_
              refine va_get (D := (dC, dI)) (ci := 2) (v := .ref mK) (C := RX2) (T := TX2) (N := 15) hx hb hts hin_2 hown hK hP 0 rfl rfl 2 (by decide) k_1 (fun _ h9 => h9) rfl dX2_combine_73 ?_
              refine lv_iload hx hb dX2_combine_76 (lv_at hl 2 rfl) ?_
              refine xr_iald hx hb hK hP 1 1 rfl rfl (by omega) (by omega) dX2_combine_78 ?_
              refine xr_iast hx hb hK hP hD hS 3 1 rfl rfl (by omega) (by omega) dX2_combine_79 (fun H locs hP hD hS => ?_)
              have hP : va_P (dC, dI) vwCl [(m0, .inr (2, [.int (nI th), .int (nI cap), .ref mK, .ref mT, .ref mU, .ref mV, .int (nI n), .int (nI hi), .int (nI ru), .ref mL, .int (nI me), .long (lN mp), .ref mS, .int (nI pd), .int (nI ht)])), (mK, .inl (cI, 4096, .inl K)), (mT, .inl (cI, 4096, .inl T)), (mU, .inl (cI, 4096, .inl (uN_up U2 k1 (K y1)))), (mV, .inl (cI, 4096, .inl V2))] H := hP
              have hD : va_D A [(m0, .inr (2, [.int (nI th), .int (nI cap), .ref mK, .ref mT, .ref mU, .ref mV, .int (nI n), .int (nI hi), .int (nI ru), .ref mL, .int (nI me), .long (lN mp), .ref mS, .int (nI pd), .int (nI ht)])), (mK, .inl (cI, 4096, .inl K)), (mT, .inl (cI, 4096, .inl T)), (mU, .inl (cI, 4096, .inl (uN_up U2 k1 (K y1)))), (mV, .inl (cI, 4096, .inl V2))] := hD
              refine lv_aload_n hx hb dX2_combine_80 rfl (lv_at hl 4 rfl) ?_
              refine va_get (D := (dC, dI)) (ci := 2) (v := .ref mV) (C := RX2) (T := TX2) (N := 15) hx hb hts hin_2 hown hK hP 0 rfl rfl 5 (by decide) k_4 (fun _ h9 => h9) rfl dX2_combine_81 ?_
              refine lv_iload hx hb dX2_combine_84 (lv_at hl 3 rfl) ?_
              refine lv_iload hx hb dX2_combine_86 (lv_at hl 0 rfl) ?_
              refine xr_if_eq (tgt := 101) hx hb dX2_combine_88 (by decide) (by decide) (fun _ => ?_) (fun c9 => absurd c9 (by decide))
              refine lv_aload_n hx hb dX2_combine_101 rfl (lv_at hl 4 rfl) ?_
              refine va_get (D := (dC, dI)) (ci := 2) (v := .ref mT) (C := RX2) (T := TX2) (N := 15) hx hb hts hin_2 hown hK hP 0 rfl rfl 3 (by decide) k_3 (fun _ h9 => h9) rfl dX2_combine_102 ?_
              refine lv_iload hx hb dX2_combine_105 (lv_at hl 2 rfl) ?_
              refine xr_iald hx hb hK hP 2 1 rfl rfl (by omega) (by omega) dX2_combine_107 ?_
              refine xr_iast hx hb hK hP hD hS 4 1 rfl rfl (by omega) (by omega) dX2_combine_108 (fun H locs hP hD hS => ?_)
              have hP : va_P (dC, dI) vwCl [(m0, .inr (2, [.int (nI th), .int (nI cap), .ref mK, .ref mT, .ref mU, .ref mV, .int (nI n), .int (nI hi), .int (nI ru), .ref mL, .int (nI me), .long (lN mp), .ref mS, .int (nI pd), .int (nI ht)])), (mK, .inl (cI, 4096, .inl K)), (mT, .inl (cI, 4096, .inl T)), (mU, .inl (cI, 4096, .inl (uN_up U2 k1 (K y1)))), (mV, .inl (cI, 4096, .inl (uN_up V2 k1 (T y1))))] H := hP
              have hD : va_D A [(m0, .inr (2, [.int (nI th), .int (nI cap), .ref mK, .ref mT, .ref mU, .ref mV, .int (nI n), .int (nI hi), .int (nI ru), .ref mL, .int (nI me), .long (lN mp), .ref mS, .int (nI pd), .int (nI ht)])), (mK, .inl (cI, 4096, .inl K)), (mT, .inl (cI, 4096, .inl T)), (mU, .inl (cI, 4096, .inl (uN_up U2 k1 (K y1)))), (mV, .inl (cI, 4096, .inl (uN_up V2 k1 (T y1))))] := hD
              refine lv_iload hx hb dX2_combine_109 (lv_at hl 0 rfl) ?_
              refine xr_if_eq (tgt := 121) hx hb dX2_combine_111 (by decide) (by decide) (fun _ => ?_) (fun c9 => absurd c9 (by decide))
              refine lv_iload hx hb dX2_combine_121 (lv_at hl 1 rfl) ?_
              refine lv_istore (lv' := [(4, .int (nI x1)), (7, .int (nI 0)), (5, .int (nI y1)), (6, .int (nI k1)), (0, .ref m0), (1, .int (nI a)), (2, .int (nI mid)), (3, .int (nI b))]) hx hb dX2_combine_123 hl (by decide) rfl (fun ls hl => ?_)
              refine lv_iload hx hb dX2_combine_125 (lv_at hl 1 rfl) ?_
              refine xr_if_eq (tgt := 135) hx hb dX2_combine_127 (by decide) (by decide) (fun _ => ?_) (fun c9 => absurd c9 (by decide))
              refine lv_iload hx hb dX2_combine_135 (lv_at hl 2 rfl) ?_
              refine lv_iconst (v := nI 1) hx hb dX2_combine_137 (by decide) ?_
              refine xr_iadd hx hb dX2_combine_138 ?_
              refine lv_istore (lv' := [(5, .int (nI (y1 + 1))), (4, .int (nI x1)), (7, .int (nI 0)), (6, .int (nI k1)), (0, .ref m0), (1, .int (nI a)), (2, .int (nI mid)), (3, .int (nI b))]) hx hb dX2_combine_139 hl (by decide) rfl (fun ls hl => ?_)
              refine lv_iinc (v := nI (k1 + 1)) (lv' := [(6, .int (nI (k1 + 1))), (5, .int (nI (y1 + 1))), (4, .int (nI x1)), (7, .int (nI 0)), (0, .ref m0), (1, .int (nI a)), (2, .int (nI mid)), (3, .int (nI b))]) hx hb dX2_combine_141 hl (k := 3) rfl (nI_add k1 1) (by decide) rfl (fun ls hl => ?_)
              refine lv_goto (tgt := 9) hx hb dX2_combine_144 (by decide) ?_
              exact ih_c (uN_up U2 k1 (K y1)) (uN_up V2 k1 (T y1)) x1 (y1 + 1) (k1 + 1) (by rw [prF_up]; exact hNew) (by omega) _ _ _ hP hD hS (lv_sub hl [2, 1, 0, 4, 5, 6, 7] rfl)
            · have hNew := cm_A hs1 hs2 hI (by omega) (fun _ => Int.not_lt.mp (fun q => c_41 (Int32.lt_iff_toInt_lt.mpr q)))
              refine lv_iconst (v := nI 1) hx hb dX2_combine_44 (by decide) ?_
              refine lv_goto (tgt := 49) hx hb dX2_combine_45 (by decide) ?_
              refine lv_istore (lv' := [(7, .int (nI 1)), (4, .int (nI x1)), (5, .int (nI y1)), (6, .int (nI k1)), (0, .ref m0), (1, .int (nI a)), (2, .int (nI mid)), (3, .int (nI b))]) hx hb dX2_combine_49 hl (by decide) rfl (fun ls hl => ?_)
              refine lv_aload_n hx hb dX2_combine_51 rfl (lv_at hl 4 rfl) ?_
              refine va_get (D := (dC, dI)) (ci := 2) (v := .ref mU) (C := RX2) (T := TX2) (N := 15) hx hb hts hin_2 hown hK hP 0 rfl rfl 4 (by decide) k_2 (fun _ h9 => h9) rfl dX2_combine_52 ?_
              refine lv_iload hx hb dX2_combine_55 (lv_at hl 3 rfl) ?_
              refine lv_iload hx hb dX2_combine_57 (lv_at hl 0 rfl) ?_
              refine xr_if_eq (tgt := 72) hx hb dX2_combine_59 (by decide) (by decide) (fun c9 => absurd c9 (by decide)) (fun _ => ?_)
              refine lv_aload_n hx hb dX2_combine_62 rfl (lv_at hl 4 rfl) ?_
              refine va_get (D := (dC, dI)) (ci := 2) (v := .ref mK) (C := RX2) (T := TX2) (N := 15) hx hb hts hin_2 hown hK hP 0 rfl rfl 2 (by decide) k_1 (fun _ h9 => h9) rfl dX2_combine_63 ?_
              refine lv_iload hx hb dX2_combine_66 (lv_at hl 1 rfl) ?_
              refine xr_iald hx hb hK hP 1 1 rfl rfl (by omega) (by omega) dX2_combine_68 ?_
              refine lv_goto (tgt := 79) hx hb dX2_combine_69 (by decide) ?_
              refine xr_iast hx hb hK hP hD hS 3 1 rfl rfl (by omega) (by omega) dX2_combine_79 (fun H locs hP hD hS => ?_)
              have hP : va_P (dC, dI) vwCl [(m0, .inr (2, [.int (nI th), .int (nI cap), .ref mK, .ref mT, .ref mU, .ref mV, .int (nI n), .int (nI hi), .int (nI ru), .ref mL, .int (nI me), .long (lN mp), .ref mS, .int (nI pd), .int (nI ht)])), (mK, .inl (cI, 4096, .inl K)), (mT, .inl (cI, 4096, .inl T)), (mU, .inl (cI, 4096, .inl (uN_up U2 k1 (K x1)))), (mV, .inl (cI, 4096, .inl V2))] H := hP
              have hD : va_D A [(m0, .inr (2, [.int (nI th), .int (nI cap), .ref mK, .ref mT, .ref mU, .ref mV, .int (nI n), .int (nI hi), .int (nI ru), .ref mL, .int (nI me), .long (lN mp), .ref mS, .int (nI pd), .int (nI ht)])), (mK, .inl (cI, 4096, .inl K)), (mT, .inl (cI, 4096, .inl T)), (mU, .inl (cI, 4096, .inl (uN_up U2 k1 (K x1)))), (mV, .inl (cI, 4096, .inl V2))] := hD
              refine lv_aload_n hx hb dX2_combine_80 rfl (lv_at hl 4 rfl) ?_
              refine va_get (D := (dC, dI)) (ci := 2) (v := .ref mV) (C := RX2) (T := TX2) (N := 15) hx hb hts hin_2 hown hK hP 0 rfl rfl 5 (by decide) k_4 (fun _ h9 => h9) rfl dX2_combine_81 ?_
              refine lv_iload hx hb dX2_combine_84 (lv_at hl 3 rfl) ?_
              refine lv_iload hx hb dX2_combine_86 (lv_at hl 0 rfl) ?_
              refine xr_if_eq (tgt := 101) hx hb dX2_combine_88 (by decide) (by decide) (fun c9 => absurd c9 (by decide)) (fun _ => ?_)
              refine lv_aload_n hx hb dX2_combine_91 rfl (lv_at hl 4 rfl) ?_
              refine va_get (D := (dC, dI)) (ci := 2) (v := .ref mT) (C := RX2) (T := TX2) (N := 15) hx hb hts hin_2 hown hK hP 0 rfl rfl 3 (by decide) k_3 (fun _ h9 => h9) rfl dX2_combine_92 ?_
              refine lv_iload hx hb dX2_combine_95 (lv_at hl 1 rfl) ?_
              refine xr_iald hx hb hK hP 2 1 rfl rfl (by omega) (by omega) dX2_combine_97 ?_
              refine lv_goto (tgt := 108) hx hb dX2_combine_98 (by decide) ?_
              refine xr_iast hx hb hK hP hD hS 4 1 rfl rfl (by omega) (by omega) dX2_combine_108 (fun H locs hP hD hS => ?_)
              have hP : va_P (dC, dI) vwCl [(m0, .inr (2, [.int (nI th), .int (nI cap), .ref mK, .ref mT, .ref mU, .ref mV, .int (nI n), .int (nI hi), .int (nI ru), .ref mL, .int (nI me), .long (lN mp), .ref mS, .int (nI pd), .int (nI ht)])), (mK, .inl (cI, 4096, .inl K)), (mT, .inl (cI, 4096, .inl T)), (mU, .inl (cI, 4096, .inl (uN_up U2 k1 (K x1)))), (mV, .inl (cI, 4096, .inl (uN_up V2 k1 (T x1))))] H := hP
              have hD : va_D A [(m0, .inr (2, [.int (nI th), .int (nI cap), .ref mK, .ref mT, .ref mU, .ref mV, .int (nI n), .int (nI hi), .int (nI ru), .ref mL, .int (nI me), .long (lN mp), .ref mS, .int (nI pd), .int (nI ht)])), (mK, .inl (cI, 4096, .inl K)), (mT, .inl (cI, 4096, .inl T)), (mU, .inl (cI, 4096, .inl (uN_up U2 k1 (K x1)))), (mV, .inl (cI, 4096, .inl (uN_up V2 k1 (T x1))))] := hD
              refine lv_iload hx hb dX2_combine_109 (lv_at hl 0 rfl) ?_
              refine xr_if_eq (tgt := 121) hx hb dX2_combine_111 (by decide) (by decide) (fun c9 => absurd c9 (by decide)) (fun _ => ?_)
              refine lv_iload hx hb dX2_combine_114 (lv_at hl 1 rfl) ?_
              refine lv_iconst (v := nI 1) hx hb dX2_combine_116 (by decide) ?_
              refine xr_iadd hx hb dX2_combine_117 ?_
              refine lv_goto (tgt := 123) hx hb dX2_combine_118 (by decide) ?_
              refine lv_istore (lv' := [(4, .int (nI (x1 + 1))), (7, .int (nI 1)), (5, .int (nI y1)), (6, .int (nI k1)), (0, .ref m0), (1, .int (nI a)), (2, .int (nI mid)), (3, .int (nI b))]) hx hb dX2_combine_123 hl (by decide) rfl (fun ls hl => ?_)
              refine lv_iload hx hb dX2_combine_125 (lv_at hl 1 rfl) ?_
              refine xr_if_eq (tgt := 135) hx hb dX2_combine_127 (by decide) (by decide) (fun c9 => absurd c9 (by decide)) (fun _ => ?_)
              refine lv_iload hx hb dX2_combine_130 (lv_at hl 2 rfl) ?_
              refine lv_goto (tgt := 139) hx hb dX2_combine_132 (by decide) ?_
              refine lv_istore (lv' := [(5, .int (nI y1)), (4, .int (nI (x1 + 1))), (7, .int (nI 1)), (6, .int (nI k1)), (0, .ref m0), (1, .int (nI a)), (2, .int (nI mid)), (3, .int (nI b))]) hx hb dX2_combine_139 hl (by decide) rfl (fun ls hl => ?_)
              refine lv_iinc (v := nI (k1 + 1)) (lv' := [(6, .int (nI (k1 + 1))), (5, .int (nI y1)), (4, .int (nI (x1 + 1))), (7, .int (nI 1)), (0, .ref m0), (1, .int (nI a)), (2, .int (nI mid)), (3, .int (nI b))]) hx hb dX2_combine_141 hl (k := 3) rfl (nI_add k1 1) (by decide) rfl (fun ls hl => ?_)
              refine lv_goto (tgt := 9) hx hb dX2_combine_144 (by decide) ?_
              exact ih_c (uN_up U2 k1 (K x1)) (uN_up V2 k1 (T x1)) (x1 + 1) y1 (k1 + 1) (by rw [prF_up]; exact hNew) (by omega) _ _ _ hP hD hS (lv_sub hl [2, 1, 0, 4, 5, 6, 7] rfl)
  exact L_c (_ + 1) U V a mid a (cm_init h1 h2) (Nat.lt_succ_self _) _ _ _ hP hD hS (lv_sub hl [2, 1, 0, 3, 4, 5, 6] rfl)
abbrev rmX2_run : Room := { frames := 3, cells := 0, slots := 0, locals := 69 }
set_option maxRecDepth 100000 in
set_option maxHeartbeats 4000000 in
theorem c_X2_run (l : Launch) (dC : Nat → ClassId) (dI : Nat → Nat → Nat) (cJ cI : ClassId) (m0 mK mT mU mV mL mS th cap n hi ru me mp pd ht : Nat) (K T U V : Nat → Int32) (ln pi : Nat → Nat) (hn : n ≤ 4096) (hhi : hi ≤ 4096) : CI l yX2_run wsX2_run rmX2_run [.ref m0] (dC, dI) vwCl (KT cJ cI) [(m0, .inr (2, [.int (nI th), .int (nI cap), .ref mK, .ref mT, .ref mU, .ref mV, .int (nI n), .int (nI hi), .int (nI ru), .ref mL, .int (nI me), .long (lN mp), .ref mS, .int (nI pd), .int (nI ht)])), (mK, .inl (cI, 4096, .inl K)), (mT, .inl (cI, 4096, .inl T)), (mU, .inl (cI, 4096, .inl U)), (mV, .inl (cI, 4096, .inl V)), (mL, .inl (cI, 4096, .inl (fun j => nI (ln j)))), (mS, .inl (cI, 200, .inl (fun j => nI (pi j))))] (S := (Nat → Int32) × (Nat → Int32) × (Nat → Int32) × (Nat → Int32) × (Nat → Nat) × (Nat → Nat) × Nat × Nat × Nat × Nat × Nat × Nat) (fun r (K', T', U', V', ln', pi', ru', me', mp', pd', ht', hi') => r = nI ht' ∧ (ru', ln', me', mp', ht') = rnQ (kG K) n ln pi ∧ hi' = max hi ht' ∧ so k2 (prF K' T') 0 n ∧ sE k2 (sg (prF K' T') 0 n) (sg (prF K T) 0 n) ∧ ht' ≤ 4096 ∧ ru' ≤ 4096) (fun _ => KT cJ cI) (fun (K', T', U', V', ln', pi', ru', me', mp', pd', ht', hi') => [(m0, .inr (2, [.int (nI 0), .int (nI cap), .ref mK, .ref mT, .ref mU, .ref mV, .int (nI n), .int (nI hi'), .int (nI ru'), .ref mL, .int (nI me'), .long (lN mp'), .ref mS, .int (nI pd'), .int (nI ht')])), (mK, .inl (cI, 4096, .inl K')), (mT, .inl (cI, 4096, .inl T')), (mU, .inl (cI, 4096, .inl U')), (mV, .inl (cI, 4096, .inl V')), (mL, .inl (cI, 4096, .inl (fun j => nI (ln' j)))), (mS, .inl (cI, 200, .inl (fun j => nI (pi' j))))]) := by
  refine CI.mk (by decide) rfl (Nat.le_of_ble_eq_true rfl) ?_
  intro p e s m args below meth c A Q ls hx hb hml hown hts hA hS hP hD hK hN hl hret
  have hl : lv_has ls 3 [(0, .ref m0)] := hl
  have hin_2 : ∀ w ∈ u_ws RX2 TX2 15, w ∈ wsX2_run := by decide +kernel
  have k_1 := hts (Cond.fieldLink RX2 32 "PairSorterModel" "thrown" "I") (by decide +kernel)
  have k_2 := hts (Cond.fieldLink RX2 62 "PairSorterModel" "runs" "I") (by decide +kernel)
  have k_3 := hts (Cond.fieldLink RX2 38 "PairSorterModel" "merges" "I") (by decide +kernel)
  have k_4 := hts (Cond.fieldLink RX2 41 "PairSorterModel" "merged" "J") (by decide +kernel)
  have k_5 := hts (Cond.fieldLink RX2 45 "PairSorterModel" "piled" "I") (by decide +kernel)
  have k_6 := hts (Cond.fieldLink RX2 65 "PairSorterModel" "height" "I") (by decide +kernel)
  have k_7 := hts (Cond.fieldLink RX2 35 "PairSorterModel" "size" "I") (by decide +kernel)
  have k_8 := hts (Cond.fieldLink RX2 79 "PairSorterModel" "high" "I") (by decide +kernel)
  refine lv_aload_n hx hb dX2_run_0 rfl (lv_at hl 0 rfl) ?_
  refine lv_iconst (v := nI 0) hx hb dX2_run_1 (by decide) ?_
  refine va_put (D := (dC, dI)) (ci := 2) (v := .int (nI 0)) (ty := .int) (C := RX2) (T := TX2) (N := 15) hx hb hts hin_2 tyX2 tyX2_ok nmX2 hown hK hP hD hS 0 rfl rfl 0 (by decide) k_1 (fun _ h9 => h9) rfl (by decide +kernel) rfl rfl (Nat.le_of_ble_eq_true rfl) dX2_run_2 (fun H locs hP hD hS => ?_)
  have hP : va_P (dC, dI) vwCl [(m0, .inr (2, [.int (nI 0), .int (nI cap), .ref mK, .ref mT, .ref mU, .ref mV, .int (nI n), .int (nI hi), .int (nI ru), .ref mL, .int (nI me), .long (lN mp), .ref mS, .int (nI pd), .int (nI ht)])), (mK, .inl (cI, 4096, .inl K)), (mT, .inl (cI, 4096, .inl T)), (mU, .inl (cI, 4096, .inl U)), (mV, .inl (cI, 4096, .inl V)), (mL, .inl (cI, 4096, .inl (fun j => nI (ln j)))), (mS, .inl (cI, 200, .inl (fun j => nI (pi j))))] H := hP
  have hD : va_D A [(m0, .inr (2, [.int (nI 0), .int (nI cap), .ref mK, .ref mT, .ref mU, .ref mV, .int (nI n), .int (nI hi), .int (nI ru), .ref mL, .int (nI me), .long (lN mp), .ref mS, .int (nI pd), .int (nI ht)])), (mK, .inl (cI, 4096, .inl K)), (mT, .inl (cI, 4096, .inl T)), (mU, .inl (cI, 4096, .inl U)), (mV, .inl (cI, 4096, .inl V)), (mL, .inl (cI, 4096, .inl (fun j => nI (ln j)))), (mS, .inl (cI, 200, .inl (fun j => nI (pi j))))] := hD
  refine lv_aload_n hx hb dX2_run_5 rfl (lv_at hl 0 rfl) ?_
  refine lv_iconst (v := nI 0) hx hb dX2_run_6 (by decide) ?_
  refine va_put (D := (dC, dI)) (ci := 2) (v := .int (nI 0)) (ty := .int) (C := RX2) (T := TX2) (N := 15) hx hb hts hin_2 tyX2 tyX2_ok nmX2 hown hK hP hD hS 0 rfl rfl 8 (by decide) k_2 (fun _ h9 => h9) rfl (by decide +kernel) rfl rfl (Nat.le_of_ble_eq_true rfl) dX2_run_7 (fun H locs hP hD hS => ?_)
  have hP : va_P (dC, dI) vwCl [(m0, .inr (2, [.int (nI 0), .int (nI cap), .ref mK, .ref mT, .ref mU, .ref mV, .int (nI n), .int (nI hi), .int (nI 0), .ref mL, .int (nI me), .long (lN mp), .ref mS, .int (nI pd), .int (nI ht)])), (mK, .inl (cI, 4096, .inl K)), (mT, .inl (cI, 4096, .inl T)), (mU, .inl (cI, 4096, .inl U)), (mV, .inl (cI, 4096, .inl V)), (mL, .inl (cI, 4096, .inl (fun j => nI (ln j)))), (mS, .inl (cI, 200, .inl (fun j => nI (pi j))))] H := hP
  have hD : va_D A [(m0, .inr (2, [.int (nI 0), .int (nI cap), .ref mK, .ref mT, .ref mU, .ref mV, .int (nI n), .int (nI hi), .int (nI 0), .ref mL, .int (nI me), .long (lN mp), .ref mS, .int (nI pd), .int (nI ht)])), (mK, .inl (cI, 4096, .inl K)), (mT, .inl (cI, 4096, .inl T)), (mU, .inl (cI, 4096, .inl U)), (mV, .inl (cI, 4096, .inl V)), (mL, .inl (cI, 4096, .inl (fun j => nI (ln j)))), (mS, .inl (cI, 200, .inl (fun j => nI (pi j))))] := hD
  refine lv_aload_n hx hb dX2_run_10 rfl (lv_at hl 0 rfl) ?_
  refine lv_iconst (v := nI 0) hx hb dX2_run_11 (by decide) ?_
  refine va_put (D := (dC, dI)) (ci := 2) (v := .int (nI 0)) (ty := .int) (C := RX2) (T := TX2) (N := 15) hx hb hts hin_2 tyX2 tyX2_ok nmX2 hown hK hP hD hS 0 rfl rfl 10 (by decide) k_3 (fun _ h9 => h9) rfl (by decide +kernel) rfl rfl (Nat.le_of_ble_eq_true rfl) dX2_run_12 (fun H locs hP hD hS => ?_)
  have hP : va_P (dC, dI) vwCl [(m0, .inr (2, [.int (nI 0), .int (nI cap), .ref mK, .ref mT, .ref mU, .ref mV, .int (nI n), .int (nI hi), .int (nI 0), .ref mL, .int (nI 0), .long (lN mp), .ref mS, .int (nI pd), .int (nI ht)])), (mK, .inl (cI, 4096, .inl K)), (mT, .inl (cI, 4096, .inl T)), (mU, .inl (cI, 4096, .inl U)), (mV, .inl (cI, 4096, .inl V)), (mL, .inl (cI, 4096, .inl (fun j => nI (ln j)))), (mS, .inl (cI, 200, .inl (fun j => nI (pi j))))] H := hP
  have hD : va_D A [(m0, .inr (2, [.int (nI 0), .int (nI cap), .ref mK, .ref mT, .ref mU, .ref mV, .int (nI n), .int (nI hi), .int (nI 0), .ref mL, .int (nI 0), .long (lN mp), .ref mS, .int (nI pd), .int (nI ht)])), (mK, .inl (cI, 4096, .inl K)), (mT, .inl (cI, 4096, .inl T)), (mU, .inl (cI, 4096, .inl U)), (mV, .inl (cI, 4096, .inl V)), (mL, .inl (cI, 4096, .inl (fun j => nI (ln j)))), (mS, .inl (cI, 200, .inl (fun j => nI (pi j))))] := hD
  refine lv_aload_n hx hb dX2_run_15 rfl (lv_at hl 0 rfl) ?_
  refine lv_lconst (v := lN 0) hx hb dX2_run_16 (by decide) ?_
  refine va_put (D := (dC, dI)) (ci := 2) (v := .long (lN 0)) (ty := .long) (C := RX2) (T := TX2) (N := 15) hx hb hts hin_2 tyX2 tyX2_ok nmX2 hown hK hP hD hS 0 rfl rfl 11 (by decide) k_4 (fun _ h9 => h9) rfl (by decide +kernel) rfl rfl (Nat.le_of_ble_eq_true rfl) dX2_run_17 (fun H locs hP hD hS => ?_)
  have hP : va_P (dC, dI) vwCl [(m0, .inr (2, [.int (nI 0), .int (nI cap), .ref mK, .ref mT, .ref mU, .ref mV, .int (nI n), .int (nI hi), .int (nI 0), .ref mL, .int (nI 0), .long (lN 0), .ref mS, .int (nI pd), .int (nI ht)])), (mK, .inl (cI, 4096, .inl K)), (mT, .inl (cI, 4096, .inl T)), (mU, .inl (cI, 4096, .inl U)), (mV, .inl (cI, 4096, .inl V)), (mL, .inl (cI, 4096, .inl (fun j => nI (ln j)))), (mS, .inl (cI, 200, .inl (fun j => nI (pi j))))] H := hP
  have hD : va_D A [(m0, .inr (2, [.int (nI 0), .int (nI cap), .ref mK, .ref mT, .ref mU, .ref mV, .int (nI n), .int (nI hi), .int (nI 0), .ref mL, .int (nI 0), .long (lN 0), .ref mS, .int (nI pd), .int (nI ht)])), (mK, .inl (cI, 4096, .inl K)), (mT, .inl (cI, 4096, .inl T)), (mU, .inl (cI, 4096, .inl U)), (mV, .inl (cI, 4096, .inl V)), (mL, .inl (cI, 4096, .inl (fun j => nI (ln j)))), (mS, .inl (cI, 200, .inl (fun j => nI (pi j))))] := hD
  refine lv_aload_n hx hb dX2_run_20 rfl (lv_at hl 0 rfl) ?_
  refine lv_iconst (v := nI 0) hx hb dX2_run_21 (by decide) ?_
  refine va_put (D := (dC, dI)) (ci := 2) (v := .int (nI 0)) (ty := .int) (C := RX2) (T := TX2) (N := 15) hx hb hts hin_2 tyX2 tyX2_ok nmX2 hown hK hP hD hS 0 rfl rfl 13 (by decide) k_5 (fun _ h9 => h9) rfl (by decide +kernel) rfl rfl (Nat.le_of_ble_eq_true rfl) dX2_run_22 (fun H locs hP hD hS => ?_)
  have hP : va_P (dC, dI) vwCl [(m0, .inr (2, [.int (nI 0), .int (nI cap), .ref mK, .ref mT, .ref mU, .ref mV, .int (nI n), .int (nI hi), .int (nI 0), .ref mL, .int (nI 0), .long (lN 0), .ref mS, .int (nI 0), .int (nI ht)])), (mK, .inl (cI, 4096, .inl K)), (mT, .inl (cI, 4096, .inl T)), (mU, .inl (cI, 4096, .inl U)), (mV, .inl (cI, 4096, .inl V)), (mL, .inl (cI, 4096, .inl (fun j => nI (ln j)))), (mS, .inl (cI, 200, .inl (fun j => nI (pi j))))] H := hP
  have hD : va_D A [(m0, .inr (2, [.int (nI 0), .int (nI cap), .ref mK, .ref mT, .ref mU, .ref mV, .int (nI n), .int (nI hi), .int (nI 0), .ref mL, .int (nI 0), .long (lN 0), .ref mS, .int (nI 0), .int (nI ht)])), (mK, .inl (cI, 4096, .inl K)), (mT, .inl (cI, 4096, .inl T)), (mU, .inl (cI, 4096, .inl U)), (mV, .inl (cI, 4096, .inl V)), (mL, .inl (cI, 4096, .inl (fun j => nI (ln j)))), (mS, .inl (cI, 200, .inl (fun j => nI (pi j))))] := hD
  refine lv_aload_n hx hb dX2_run_25 rfl (lv_at hl 0 rfl) ?_
  refine lv_iconst (v := nI 0) hx hb dX2_run_26 (by decide) ?_
  refine va_put (D := (dC, dI)) (ci := 2) (v := .int (nI 0)) (ty := .int) (C := RX2) (T := TX2) (N := 15) hx hb hts hin_2 tyX2 tyX2_ok nmX2 hown hK hP hD hS 0 rfl rfl 14 (by decide) k_6 (fun _ h9 => h9) rfl (by decide +kernel) rfl rfl (Nat.le_of_ble_eq_true rfl) dX2_run_27 (fun H locs hP hD hS => ?_)
  have hP : va_P (dC, dI) vwCl [(m0, .inr (2, [.int (nI 0), .int (nI cap), .ref mK, .ref mT, .ref mU, .ref mV, .int (nI n), .int (nI hi), .int (nI 0), .ref mL, .int (nI 0), .long (lN 0), .ref mS, .int (nI 0), .int (nI 0)])), (mK, .inl (cI, 4096, .inl K)), (mT, .inl (cI, 4096, .inl T)), (mU, .inl (cI, 4096, .inl U)), (mV, .inl (cI, 4096, .inl V)), (mL, .inl (cI, 4096, .inl (fun j => nI (ln j)))), (mS, .inl (cI, 200, .inl (fun j => nI (pi j))))] H := hP
  have hD : va_D A [(m0, .inr (2, [.int (nI 0), .int (nI cap), .ref mK, .ref mT, .ref mU, .ref mV, .int (nI n), .int (nI hi), .int (nI 0), .ref mL, .int (nI 0), .long (lN 0), .ref mS, .int (nI 0), .int (nI 0)])), (mK, .inl (cI, 4096, .inl K)), (mT, .inl (cI, 4096, .inl T)), (mU, .inl (cI, 4096, .inl U)), (mV, .inl (cI, 4096, .inl V)), (mL, .inl (cI, 4096, .inl (fun j => nI (ln j)))), (mS, .inl (cI, 200, .inl (fun j => nI (pi j))))] := hD
  refine lv_aload_n hx hb dX2_run_30 rfl (lv_at hl 0 rfl) ?_
  refine call_V_V (As := []) (rest := []) (wr := [(mT, .inl (cI, 4096, .inl T)), (mU, .inl (cI, 4096, .inl U)), (mV, .inl (cI, 4096, .inl V))]) ⟨hx, hb, hml, hown, hts⟩ (c_X2_lookForRuns l dC dI cJ cI m0 mK mT mU mV mL mS 0 cap n hi K ln pi (by omega)) (cwV 0 hts gX2_run_X2_lookForRuns rfl rfl rfl (by decide +kernel) ⟨Nat.le_of_ble_eq_true rfl, Nat.le_of_ble_eq_true rfl⟩) hP hD hK hN hS hA [0, 1, 5, 6] [2, 3, 4] [0, 1] rfl rfl rfl (by decide) (by decide) (by decide) 0 2 rfl rfl rfl rfl hl.1 rfl (Nat.le_of_ble_eq_true rfl) dX2_run_31 (Nat.le_of_ble_eq_true rfl) (Nat.le_of_ble_eq_true rfl) (fun u_31 H locs hw_31 hP hD hK1 hS => ?_)
  refine W.widen (k := 0) (n := 0) (Nat.le_of_ble_eq_true rfl) (Nat.le_of_ble_eq_true rfl) ?_
  obtain ⟨ru1, ln1, me1, mp1, pd1, pi1, ht1⟩ := u_31
  obtain ⟨hq1, hq2, hq3⟩ := hw_31
  have hP : va_P (dC, dI) vwCl [(m0, .inr (2, [.int (nI 0), .int (nI cap), .ref mK, .ref mT, .ref mU, .ref mV, .int (nI n), .int (nI hi), .int (nI ru1), .ref mL, .int (nI me1), .long (lN mp1), .ref mS, .int (nI pd1), .int (nI ht1)])), (mK, .inl (cI, 4096, .inl K)), (mT, .inl (cI, 4096, .inl T)), (mU, .inl (cI, 4096, .inl U)), (mV, .inl (cI, 4096, .inl V)), (mL, .inl (cI, 4096, .inl (fun j => nI (ln1 j)))), (mS, .inl (cI, 200, .inl (fun j => nI (pi1 j))))] H := ct_Psub hP [3, 4, 0, 1, 2, 5, 6] rfl
  have hD : va_D A [(m0, .inr (2, [.int (nI 0), .int (nI cap), .ref mK, .ref mT, .ref mU, .ref mV, .int (nI n), .int (nI hi), .int (nI ru1), .ref mL, .int (nI me1), .long (lN mp1), .ref mS, .int (nI pd1), .int (nI ht1)])), (mK, .inl (cI, 4096, .inl K)), (mT, .inl (cI, 4096, .inl T)), (mU, .inl (cI, 4096, .inl U)), (mV, .inl (cI, 4096, .inl V)), (mL, .inl (cI, 4096, .inl (fun j => nI (ln1 j)))), (mS, .inl (cI, 200, .inl (fun j => nI (pi1 j))))] := hD.sub [3, 4, 0, 1, 2, 5, 6] (by decide) rfl
  refine lv_iconst (v := nI 1) hx hb dX2_run_34 (by decide) ?_
  refine lv_istore_n (lv' := [(1, .int (nI 1)), (0, .ref m0)]) hx hb dX2_run_35 rfl hl (by decide) rfl (fun ls hl => ?_)
  have L_w : ∀ (kq : Nat) (w : Nat) (K2 T2 U2 V2 : Nat → Int32), (0 < w) → (bL k2 (prF K2 T2) w n 0) → (sE k2 (sg (prF K2 T2) 0 n) (sg (prF K T) 0 n)) → (w ≤ 8192) → n - w < kq → ∀ (H : Heap) (locs : List Loc) (ls : Array Slot), va_P (dC, dI) vwCl [(m0, .inr (2, [.int (nI 0), .int (nI cap), .ref mK, .ref mT, .ref mU, .ref mV, .int (nI n), .int (nI hi), .int (nI ru1), .ref mL, .int (nI me1), .long (lN mp1), .ref mS, .int (nI pd1), .int (nI ht1)])), (mK, .inl (cI, 4096, .inl K2)), (mT, .inl (cI, 4096, .inl T2)), (mU, .inl (cI, 4096, .inl U2)), (mV, .inl (cI, 4096, .inl V2)), (mL, .inl (cI, 4096, .inl (fun j => nI (ln1 j)))), (mS, .inl (cI, 200, .inl (fun j => nI (pi1 j))))] H → va_D A [(m0, .inr (2, [.int (nI 0), .int (nI cap), .ref mK, .ref mT, .ref mU, .ref mV, .int (nI n), .int (nI hi), .int (nI ru1), .ref mL, .int (nI me1), .long (lN mp1), .ref mS, .int (nI pd1), .int (nI ht1)])), (mK, .inl (cI, 4096, .inl K2)), (mT, .inl (cI, 4096, .inl T2)), (mU, .inl (cI, 4096, .inl U2)), (mV, .inl (cI, 4096, .inl V2)), (mL, .inl (cI, 4096, .inl (fun j => nI (ln1 j)))), (mS, .inl (cI, 200, .inl (fun j => nI (pi1 j))))] → va_S A s.heap H locs → lv_has ls 3 [(1, .int (nI w)), (0, .ref m0)] → W p l e rmX2_run s m args below meth c H locs 0 0 Q (F0 m 36 ls []) := by
    intro kq
    induction kq with
    | zero =>
      intro w K2 T2 U2 V2 hw1 hbl hE hw2 hm
      exact absurd hm (Nat.not_lt_zero _)
    | succ kq ih_w =>
      intro w K2 T2 U2 V2 hw1 hbl hE hw2 hm H locs ls hP hD hS hl
      refine lv_iload_n hx hb dX2_run_36 rfl (lv_at hl 0 rfl) ?_
      refine lv_aload_n hx hb dX2_run_37 rfl (lv_at hl 1 rfl) ?_
      refine va_get (D := (dC, dI)) (ci := 2) (v := .int (nI n)) (C := RX2) (T := TX2) (N := 15) hx hb hts hin_2 hown hK hP 0 rfl rfl 6 (by decide) k_7 (fun _ h9 => h9) rfl dX2_run_38 ?_
      refine xr_icmp_ge (tgt := 104) hx hb dX2_run_41 (by decide) (by omega) (by omega) (fun c_41 => ?_) (fun c_41 => ?_)
      · refine lv_aload_n hx hb dX2_run_104 rfl (lv_at hl 1 rfl) ?_
        refine lv_aload_n hx hb dX2_run_105 rfl (lv_at hl 1 rfl) ?_
        refine va_get (D := (dC, dI)) (ci := 2) (v := .int (nI ht1)) (C := RX2) (T := TX2) (N := 15) hx hb hts hin_2 hown hK hP 0 rfl rfl 14 (by decide) k_6 (fun _ h9 => h9) rfl dX2_run_106 ?_
        refine lv_aload_n hx hb dX2_run_109 rfl (lv_at hl 1 rfl) ?_
        refine va_get (D := (dC, dI)) (ci := 2) (v := .int (nI hi)) (C := RX2) (T := TX2) (N := 15) hx hb hts hin_2 hown hK hP 0 rfl rfl 7 (by decide) k_8 (fun _ h9 => h9) rfl dX2_run_110 ?_
        refine xr_icmp_le (tgt := 123) hx hb dX2_run_113 (by decide) (by omega) (by omega) (fun c_113 => ?_) (fun c_113 => ?_)
        · have hv9 : nI hi = nI (max hi ht1) := congrArg nI (by omega)
          refine lv_aload_n hx hb dX2_run_123 rfl (lv_at hl 1 rfl) ?_
          refine va_get (D := (dC, dI)) (ci := 2) (v := .int (nI hi)) (C := RX2) (T := TX2) (N := 15) hx hb hts hin_2 hown hK hP 0 rfl rfl 7 (by decide) k_8 (fun _ h9 => h9) rfl dX2_run_124 ?_
          refine xr_top (y := nI (max hi ht1)) (hv9) ?_
          refine va_put (D := (dC, dI)) (ci := 2) (v := .int (nI (max hi ht1))) (ty := .int) (C := RX2) (T := TX2) (N := 15) hx hb hts hin_2 tyX2 tyX2_ok nmX2 hown hK hP hD hS 0 rfl rfl 7 (by decide) k_8 (fun _ h9 => h9) rfl (by decide +kernel) rfl rfl (Nat.le_of_ble_eq_true rfl) dX2_run_127 (fun H locs hP hD hS => ?_)
          have hP : va_P (dC, dI) vwCl [(m0, .inr (2, [.int (nI 0), .int (nI cap), .ref mK, .ref mT, .ref mU, .ref mV, .int (nI n), .int (nI (max hi ht1)), .int (nI ru1), .ref mL, .int (nI me1), .long (lN mp1), .ref mS, .int (nI pd1), .int (nI ht1)])), (mK, .inl (cI, 4096, .inl K2)), (mT, .inl (cI, 4096, .inl T2)), (mU, .inl (cI, 4096, .inl U2)), (mV, .inl (cI, 4096, .inl V2)), (mL, .inl (cI, 4096, .inl (fun j => nI (ln1 j)))), (mS, .inl (cI, 200, .inl (fun j => nI (pi1 j))))] H := hP
          have hD : va_D A [(m0, .inr (2, [.int (nI 0), .int (nI cap), .ref mK, .ref mT, .ref mU, .ref mV, .int (nI n), .int (nI (max hi ht1)), .int (nI ru1), .ref mL, .int (nI me1), .long (lN mp1), .ref mS, .int (nI pd1), .int (nI ht1)])), (mK, .inl (cI, 4096, .inl K2)), (mT, .inl (cI, 4096, .inl T2)), (mU, .inl (cI, 4096, .inl U2)), (mV, .inl (cI, 4096, .inl V2)), (mL, .inl (cI, 4096, .inl (fun j => nI (ln1 j)))), (mS, .inl (cI, 200, .inl (fun j => nI (pi1 j))))] := hD
          refine lv_aload_n hx hb dX2_run_130 rfl (lv_at hl 1 rfl) ?_
          refine va_get (D := (dC, dI)) (ci := 2) (v := .int (nI ht1)) (C := RX2) (T := TX2) (N := 15) hx hb hts hin_2 hown hK hP 0 rfl rfl 14 (by decide) k_6 (fun _ h9 => h9) rfl dX2_run_131 ?_
          exact hret (K2, T2, U2, V2, ln1, pi1, ru1, me1, mp1, pd1, ht1, max hi ht1) _ _ _ _ _ _ _ (⟨rfl, hq1, rfl, bL_end hbl c_41, hE, hq2, hq3⟩) hP hK hD hS (Nat.le_of_ble_eq_true rfl) (Nat.le_of_ble_eq_true rfl) (rfl) dX2_run_134
        · have hv9 : nI ht1 = nI (max hi ht1) := congrArg nI (by omega)
          refine lv_aload_n hx hb dX2_run_116 rfl (lv_at hl 1 rfl) ?_
          refine va_get (D := (dC, dI)) (ci := 2) (v := .int (nI ht1)) (C := RX2) (T := TX2) (N := 15) hx hb hts hin_2 hown hK hP 0 rfl rfl 14 (by decide) k_6 (fun _ h9 => h9) rfl dX2_run_117 ?_
          refine lv_goto (tgt := 127) hx hb dX2_run_120 (by decide) ?_
          refine xr_top (y := nI (max hi ht1)) (hv9) ?_
          refine va_put (D := (dC, dI)) (ci := 2) (v := .int (nI (max hi ht1))) (ty := .int) (C := RX2) (T := TX2) (N := 15) hx hb hts hin_2 tyX2 tyX2_ok nmX2 hown hK hP hD hS 0 rfl rfl 7 (by decide) k_8 (fun _ h9 => h9) rfl (by decide +kernel) rfl rfl (Nat.le_of_ble_eq_true rfl) dX2_run_127 (fun H locs hP hD hS => ?_)
          have hP : va_P (dC, dI) vwCl [(m0, .inr (2, [.int (nI 0), .int (nI cap), .ref mK, .ref mT, .ref mU, .ref mV, .int (nI n), .int (nI (max hi ht1)), .int (nI ru1), .ref mL, .int (nI me1), .long (lN mp1), .ref mS, .int (nI pd1), .int (nI ht1)])), (mK, .inl (cI, 4096, .inl K2)), (mT, .inl (cI, 4096, .inl T2)), (mU, .inl (cI, 4096, .inl U2)), (mV, .inl (cI, 4096, .inl V2)), (mL, .inl (cI, 4096, .inl (fun j => nI (ln1 j)))), (mS, .inl (cI, 200, .inl (fun j => nI (pi1 j))))] H := hP
          have hD : va_D A [(m0, .inr (2, [.int (nI 0), .int (nI cap), .ref mK, .ref mT, .ref mU, .ref mV, .int (nI n), .int (nI (max hi ht1)), .int (nI ru1), .ref mL, .int (nI me1), .long (lN mp1), .ref mS, .int (nI pd1), .int (nI ht1)])), (mK, .inl (cI, 4096, .inl K2)), (mT, .inl (cI, 4096, .inl T2)), (mU, .inl (cI, 4096, .inl U2)), (mV, .inl (cI, 4096, .inl V2)), (mL, .inl (cI, 4096, .inl (fun j => nI (ln1 j)))), (mS, .inl (cI, 200, .inl (fun j => nI (pi1 j))))] := hD
          refine lv_aload_n hx hb dX2_run_130 rfl (lv_at hl 1 rfl) ?_
          refine va_get (D := (dC, dI)) (ci := 2) (v := .int (nI ht1)) (C := RX2) (T := TX2) (N := 15) hx hb hts hin_2 hown hK hP 0 rfl rfl 14 (by decide) k_6 (fun _ h9 => h9) rfl dX2_run_131 ?_
          exact hret (K2, T2, U2, V2, ln1, pi1, ru1, me1, mp1, pd1, ht1, max hi ht1) _ _ _ _ _ _ _ (⟨rfl, hq1, rfl, bL_end hbl c_41, hE, hq2, hq3⟩) hP hK hD hS (Nat.le_of_ble_eq_true rfl) (Nat.le_of_ble_eq_true rfl) (rfl) dX2_run_134
      · refine lv_iconst (v := nI 0) hx hb dX2_run_44 (by decide) ?_
        refine lv_istore_n (lv' := [(2, .int (nI 0)), (1, .int (nI w)), (0, .ref m0)]) hx hb dX2_run_45 rfl hl (by decide) rfl (fun ls hl => ?_)
        have L_f : ∀ (kq : Nat) (a q : Nat) (K3 T3 U3 V3 : Nat → Int32), (a = q * (2 * w)) → (bU k2 (prF K3 T3) (2 * w) n a) → (bL k2 (prF K3 T3) w n a) → (sE k2 (sg (prF K3 T3) 0 n) (sg (prF K T) 0 n)) → (a ≤ 8192) → n - a < kq → ∀ (H : Heap) (locs : List Loc) (ls : Array Slot), va_P (dC, dI) vwCl [(m0, .inr (2, [.int (nI 0), .int (nI cap), .ref mK, .ref mT, .ref mU, .ref mV, .int (nI n), .int (nI hi), .int (nI ru1), .ref mL, .int (nI me1), .long (lN mp1), .ref mS, .int (nI pd1), .int (nI ht1)])), (mK, .inl (cI, 4096, .inl K3)), (mT, .inl (cI, 4096, .inl T3)), (mU, .inl (cI, 4096, .inl U3)), (mV, .inl (cI, 4096, .inl V3)), (mL, .inl (cI, 4096, .inl (fun j => nI (ln1 j)))), (mS, .inl (cI, 200, .inl (fun j => nI (pi1 j))))] H → va_D A [(m0, .inr (2, [.int (nI 0), .int (nI cap), .ref mK, .ref mT, .ref mU, .ref mV, .int (nI n), .int (nI hi), .int (nI ru1), .ref mL, .int (nI me1), .long (lN mp1), .ref mS, .int (nI pd1), .int (nI ht1)])), (mK, .inl (cI, 4096, .inl K3)), (mT, .inl (cI, 4096, .inl T3)), (mU, .inl (cI, 4096, .inl U3)), (mV, .inl (cI, 4096, .inl V3)), (mL, .inl (cI, 4096, .inl (fun j => nI (ln1 j)))), (mS, .inl (cI, 200, .inl (fun j => nI (pi1 j))))] → va_S A s.heap H locs → lv_has ls 3 [(2, .int (nI a)), (1, .int (nI w)), (0, .ref m0)] → W p l e rmX2_run s m args below meth c H locs 0 0 Q (F0 m 46 ls []) := by
          intro kq
          induction kq with
          | zero =>
            intro a q K3 T3 U3 V3 haq hU hL hE3 hab hm
            exact absurd hm (Nat.not_lt_zero _)
          | succ kq ih_f =>
            intro a q K3 T3 U3 V3 haq hU hL hE3 hab hm H locs ls hP hD hS hl
            refine lv_iload_n hx hb dX2_run_46 rfl (lv_at hl 0 rfl) ?_
            refine lv_iload_n hx hb dX2_run_47 rfl (lv_at hl 1 rfl) ?_
            refine xr_iadd hx hb dX2_run_48 ?_
            refine lv_aload_n hx hb dX2_run_49 rfl (lv_at hl 2 rfl) ?_
            refine va_get (D := (dC, dI)) (ci := 2) (v := .int (nI n)) (C := RX2) (T := TX2) (N := 15) hx hb hts hin_2 hown hK hP 0 rfl rfl 6 (by decide) k_7 (fun _ h9 => h9) rfl dX2_run_50 ?_
            refine xr_icmp_ge (tgt := 97) hx hb dX2_run_53 (by decide) (by omega) (by omega) (fun c_53 => ?_) (fun c_53 => ?_)
            · have hb9 := b_out haq hw1 hU hL c_53
              refine lv_iconst (v := nI 2) hx hb dX2_run_97 (by decide) ?_
              refine lv_iload_n hx hb dX2_run_98 rfl (lv_at hl 1 rfl) ?_
              refine xr_imul hx hb dX2_run_99 ?_
              refine lv_istore_n (lv' := [(1, .int (nI (2 * w))), (2, .int (nI a)), (0, .ref m0)]) hx hb dX2_run_100 rfl hl (by decide) rfl (fun ls hl => ?_)
              refine lv_goto (tgt := 36) hx hb dX2_run_101 (by decide) ?_
              exact ih_w (2 * w) K3 T3 U3 V3 (by omega) hb9 hE3 (by omega) (by omega) _ _ _ hP hD hS (lv_sub hl [0, 2] rfl)
            · have hbi := b_in haq hL (Nat.le_of_lt c_53)
              refine lv_aload_n hx hb dX2_run_56 rfl (lv_at hl 2 rfl) ?_
              refine lv_iload_n hx hb dX2_run_57 rfl (lv_at hl 0 rfl) ?_
              refine lv_iload_n hx hb dX2_run_58 rfl (lv_at hl 0 rfl) ?_
              refine lv_iload_n hx hb dX2_run_59 rfl (lv_at hl 1 rfl) ?_
              refine xr_iadd hx hb dX2_run_60 ?_
              refine lv_iload_n hx hb dX2_run_61 rfl (lv_at hl 0 rfl) ?_
              refine lv_iconst (v := nI 2) hx hb dX2_run_62 (by decide) ?_
              refine lv_iload_n hx hb dX2_run_63 rfl (lv_at hl 1 rfl) ?_
              refine xr_imul hx hb dX2_run_64 ?_
              refine xr_iadd hx hb dX2_run_65 ?_
              refine lv_aload_n hx hb dX2_run_66 rfl (lv_at hl 2 rfl) ?_
              refine va_get (D := (dC, dI)) (ci := 2) (v := .int (nI n)) (C := RX2) (T := TX2) (N := 15) hx hb hts hin_2 hown hK hP 0 rfl rfl 6 (by decide) k_7 (fun _ h9 => h9) rfl dX2_run_67 ?_
              refine xr_icmp_ge (tgt := 81) hx hb dX2_run_70 (by decide) (by omega) (by omega) (fun c_70 => ?_) (fun c_70 => ?_)
              · have hv9 : nI n = nI (min (a + 2 * w) n) := congrArg nI (by omega)
                refine lv_aload_n hx hb dX2_run_81 rfl (lv_at hl 2 rfl) ?_
                refine va_get (D := (dC, dI)) (ci := 2) (v := .int (nI n)) (C := RX2) (T := TX2) (N := 15) hx hb hts hin_2 hown hK hP 0 rfl rfl 6 (by decide) k_7 (fun _ h9 => h9) rfl dX2_run_82 ?_
                refine xr_top (y := nI (min (a + 2 * w) n)) (hv9) ?_
                refine call_V_V (As := [.int (nI a), .int (nI (a + w)), .int (nI (min (a + 2 * w) n))]) (rest := []) (wr := [(mL, .inl (cI, 4096, .inl (fun j => nI (ln1 j)))), (mS, .inl (cI, 200, .inl (fun j => nI (pi1 j))))]) ⟨hx, hb, hml, hown, hts⟩ (c_X2_combine l dC dI cJ cI m0 mK mT mU mV mL mS 0 cap n hi ru1 me1 mp1 pd1 ht1 K3 T3 U3 V3 a (a + w) (min (a + 2 * w) n) (by omega) (by omega) (by omega) hbi.1 hbi.2) (cwV 3 hts gX2_run_X2_combine rfl rfl rfl (by decide +kernel) ⟨Nat.le_of_ble_eq_true rfl, Nat.le_of_ble_eq_true rfl⟩) hP hD hK hN hS hA [0, 1, 2, 3, 4] [5, 6] [0, 1] rfl rfl rfl (by decide) (by decide) (by decide) 0 2 rfl rfl rfl rfl hl.1 rfl (Nat.le_of_ble_eq_true rfl) dX2_run_85 (Nat.le_of_ble_eq_true rfl) (Nat.le_of_ble_eq_true rfl) (fun u_85 H locs hw_85 hP hD hK1 hS => ?_)
                refine W.widen (k := 0) (n := 0) (Nat.le_of_ble_eq_true rfl) (Nat.le_of_ble_eq_true rfl) ?_
                obtain ⟨K4, T4, U4, V4⟩ := u_85
                have hw85 : okq k2 (prF K3 T3) (prF K4 T4) a (min (a + 2 * w) n) := hw_85
                have hbs := b_step haq hw1 hU hL hw85
                have hP : va_P (dC, dI) vwCl [(m0, .inr (2, [.int (nI 0), .int (nI cap), .ref mK, .ref mT, .ref mU, .ref mV, .int (nI n), .int (nI hi), .int (nI ru1), .ref mL, .int (nI me1), .long (lN mp1), .ref mS, .int (nI pd1), .int (nI ht1)])), (mK, .inl (cI, 4096, .inl K4)), (mT, .inl (cI, 4096, .inl T4)), (mU, .inl (cI, 4096, .inl U4)), (mV, .inl (cI, 4096, .inl V4)), (mL, .inl (cI, 4096, .inl (fun j => nI (ln1 j)))), (mS, .inl (cI, 200, .inl (fun j => nI (pi1 j))))] H := ct_Psub hP [2, 3, 4, 5, 6, 0, 1] rfl
                have hD : va_D A [(m0, .inr (2, [.int (nI 0), .int (nI cap), .ref mK, .ref mT, .ref mU, .ref mV, .int (nI n), .int (nI hi), .int (nI ru1), .ref mL, .int (nI me1), .long (lN mp1), .ref mS, .int (nI pd1), .int (nI ht1)])), (mK, .inl (cI, 4096, .inl K4)), (mT, .inl (cI, 4096, .inl T4)), (mU, .inl (cI, 4096, .inl U4)), (mV, .inl (cI, 4096, .inl V4)), (mL, .inl (cI, 4096, .inl (fun j => nI (ln1 j)))), (mS, .inl (cI, 200, .inl (fun j => nI (pi1 j))))] := hD.sub [2, 3, 4, 5, 6, 0, 1] (by decide) rfl
                refine lv_iload_n hx hb dX2_run_88 rfl (lv_at hl 0 rfl) ?_
                refine lv_iconst (v := nI 2) hx hb dX2_run_89 (by decide) ?_
                refine lv_iload_n hx hb dX2_run_90 rfl (lv_at hl 1 rfl) ?_
                refine xr_imul hx hb dX2_run_91 ?_
                refine xr_iadd hx hb dX2_run_92 ?_
                refine lv_istore_n (lv' := [(2, .int (nI (a + (2 * w)))), (1, .int (nI w)), (0, .ref m0)]) hx hb dX2_run_93 rfl hl (by decide) rfl (fun ls hl => ?_)
                refine lv_goto (tgt := 46) hx hb dX2_run_94 (by decide) ?_
                exact ih_f (a + 2 * w) (q + 1) K4 T4 U4 V4 (by rw [Nat.succ_mul q (2 * w), ← haq]) hbs.1 hbs.2 (okq_sE (by omega) (by omega) hw85 hE3) (by omega) (by omega) _ _ _ hP hD hS (lv_sub hl [0, 1, 2] rfl)
              · have hv9 : nI (a + 2 * w) = nI (min (a + 2 * w) n) := congrArg nI (by omega)
                refine lv_iload_n hx hb dX2_run_73 rfl (lv_at hl 0 rfl) ?_
                refine lv_iconst (v := nI 2) hx hb dX2_run_74 (by decide) ?_
                refine lv_iload_n hx hb dX2_run_75 rfl (lv_at hl 1 rfl) ?_
                refine xr_imul hx hb dX2_run_76 ?_
                refine xr_iadd hx hb dX2_run_77 ?_
                refine lv_goto (tgt := 85) hx hb dX2_run_78 (by decide) ?_
                refine xr_top (y := nI (min (a + 2 * w) n)) (hv9) ?_
                refine call_V_V (As := [.int (nI a), .int (nI (a + w)), .int (nI (min (a + 2 * w) n))]) (rest := []) (wr := [(mL, .inl (cI, 4096, .inl (fun j => nI (ln1 j)))), (mS, .inl (cI, 200, .inl (fun j => nI (pi1 j))))]) ⟨hx, hb, hml, hown, hts⟩ (c_X2_combine l dC dI cJ cI m0 mK mT mU mV mL mS 0 cap n hi ru1 me1 mp1 pd1 ht1 K3 T3 U3 V3 a (a + w) (min (a + 2 * w) n) (by omega) (by omega) (by omega) hbi.1 hbi.2) (cwV 3 hts gX2_run_X2_combine rfl rfl rfl (by decide +kernel) ⟨Nat.le_of_ble_eq_true rfl, Nat.le_of_ble_eq_true rfl⟩) hP hD hK hN hS hA [0, 1, 2, 3, 4] [5, 6] [0, 1] rfl rfl rfl (by decide) (by decide) (by decide) 0 2 rfl rfl rfl rfl hl.1 rfl (Nat.le_of_ble_eq_true rfl) dX2_run_85 (Nat.le_of_ble_eq_true rfl) (Nat.le_of_ble_eq_true rfl) (fun u_85 H locs hw_85 hP hD hK1 hS => ?_)
                refine W.widen (k := 0) (n := 0) (Nat.le_of_ble_eq_true rfl) (Nat.le_of_ble_eq_true rfl) ?_
                obtain ⟨K4, T4, U4, V4⟩ := u_85
                have hw85 : okq k2 (prF K3 T3) (prF K4 T4) a (min (a + 2 * w) n) := hw_85
                have hbs := b_step haq hw1 hU hL hw85
                have hP : va_P (dC, dI) vwCl [(m0, .inr (2, [.int (nI 0), .int (nI cap), .ref mK, .ref mT, .ref mU, .ref mV, .int (nI n), .int (nI hi), .int (nI ru1), .ref mL, .int (nI me1), .long (lN mp1), .ref mS, .int (nI pd1), .int (nI ht1)])), (mK, .inl (cI, 4096, .inl K4)), (mT, .inl (cI, 4096, .inl T4)), (mU, .inl (cI, 4096, .inl U4)), (mV, .inl (cI, 4096, .inl V4)), (mL, .inl (cI, 4096, .inl (fun j => nI (ln1 j)))), (mS, .inl (cI, 200, .inl (fun j => nI (pi1 j))))] H := ct_Psub hP [2, 3, 4, 5, 6, 0, 1] rfl
                have hD : va_D A [(m0, .inr (2, [.int (nI 0), .int (nI cap), .ref mK, .ref mT, .ref mU, .ref mV, .int (nI n), .int (nI hi), .int (nI ru1), .ref mL, .int (nI me1), .long (lN mp1), .ref mS, .int (nI pd1), .int (nI ht1)])), (mK, .inl (cI, 4096, .inl K4)), (mT, .inl (cI, 4096, .inl T4)), (mU, .inl (cI, 4096, .inl U4)), (mV, .inl (cI, 4096, .inl V4)), (mL, .inl (cI, 4096, .inl (fun j => nI (ln1 j)))), (mS, .inl (cI, 200, .inl (fun j => nI (pi1 j))))] := hD.sub [2, 3, 4, 5, 6, 0, 1] (by decide) rfl
                refine lv_iload_n hx hb dX2_run_88 rfl (lv_at hl 0 rfl) ?_
                refine lv_iconst (v := nI 2) hx hb dX2_run_89 (by decide) ?_
                refine lv_iload_n hx hb dX2_run_90 rfl (lv_at hl 1 rfl) ?_
                refine xr_imul hx hb dX2_run_91 ?_
                refine xr_iadd hx hb dX2_run_92 ?_
                refine lv_istore_n (lv' := [(2, .int (nI (a + (2 * w)))), (1, .int (nI w)), (0, .ref m0)]) hx hb dX2_run_93 rfl hl (by decide) rfl (fun ls hl => ?_)
                refine lv_goto (tgt := 46) hx hb dX2_run_94 (by decide) ?_
                exact ih_f (a + 2 * w) (q + 1) K4 T4 U4 V4 (by rw [Nat.succ_mul q (2 * w), ← haq]) hbs.1 hbs.2 (okq_sE (by omega) (by omega) hw85 hE3) (by omega) (by omega) _ _ _ hP hD hS (lv_sub hl [0, 1, 2] rfl)
        exact L_f (_ + 1) 0 0 K2 T2 U2 V2 (Nat.zero_mul _).symm bU_0 hbl hE (by omega) (Nat.lt_succ_self _) _ _ _ hP hD hS (lv_sub hl [0, 1, 2] rfl)
  exact L_w (_ + 1) 1 K T U V (by omega) bL_1 (sE_refl _) (by omega) (Nat.lt_succ_self _) _ _ _ hP hD hS (lv_sub hl [0, 1] rfl)
abbrev rmX2_keyAt : Room := { frames := 0, cells := 0, slots := 0, locals := 0 }
set_option maxRecDepth 100000 in
set_option maxHeartbeats 4000000 in
theorem c_X2_keyAt (l : Launch) (dC : Nat → ClassId) (dI : Nat → Nat → Nat) (cJ cI : ClassId) (m0 mK mT mU mV mL mS th cap n hi ru me mp pd ht : Nat) (K : Nat → Int32) (ix : Int32) (hn : n ≤ 4096) : CI l yX2_keyAt wsX2_keyAt rmX2_keyAt [.ref m0, .int ix] (dC, dI) vwCl (KT cJ cI) [(m0, .inr (2, [.int (nI th), .int (nI cap), .ref mK, .ref mT, .ref mU, .ref mV, .int (nI n), .int (nI hi), .int (nI ru), .ref mL, .int (nI me), .long (lN mp), .ref mS, .int (nI pd), .int (nI ht)])), (mK, .inl (cI, 4096, .inl K))] (S := Unit) (fun r _ => r = atV K ix n) (fun _ => KT cJ cI) (fun _ => [(m0, .inr (2, [.int (nI 0), .int (nI cap), .ref mK, .ref mT, .ref mU, .ref mV, .int (nI n), .int (nI hi), .int (nI ru), .ref mL, .int (nI me), .long (lN mp), .ref mS, .int (nI pd), .int (nI ht)])), (mK, .inl (cI, 4096, .inl K))]) := by
  refine CI.mk (by decide) rfl (Nat.le_of_ble_eq_true rfl) ?_
  intro p e s m args below meth c A Q ls hx hb hml hown hts hA hS hP hD hK hN hl hret
  have hl : lv_has ls 2 [(0, .ref m0), (1, .int ix)] := hl
  have hin_2 : ∀ w ∈ u_ws RX2 TX2 15, w ∈ wsX2_keyAt := by decide +kernel
  have k_1 := hts (Cond.fieldLink RX2 32 "PairSorterModel" "thrown" "I") (by decide +kernel)
  have k_2 := hts (Cond.fieldLink RX2 35 "PairSorterModel" "size" "I") (by decide +kernel)
  have k_3 := hts (Cond.fieldLink RX2 7 "PairSorterModel" "keys" "[I") (by decide +kernel)
  refine lv_aload_n hx hb dX2_keyAt_0 rfl (lv_at hl 0 rfl) ?_
  refine lv_iconst (v := nI 0) hx hb dX2_keyAt_1 (by decide) ?_
  refine va_put (D := (dC, dI)) (ci := 2) (v := .int (nI 0)) (ty := .int) (C := RX2) (T := TX2) (N := 15) hx hb hts hin_2 tyX2 tyX2_ok nmX2 hown hK hP hD hS 0 rfl rfl 0 (by decide) k_1 (fun _ h9 => h9) rfl (by decide +kernel) rfl rfl (Nat.le_of_ble_eq_true rfl) dX2_keyAt_2 (fun H locs hP hD hS => ?_)
  have hP : va_P (dC, dI) vwCl [(m0, .inr (2, [.int (nI 0), .int (nI cap), .ref mK, .ref mT, .ref mU, .ref mV, .int (nI n), .int (nI hi), .int (nI ru), .ref mL, .int (nI me), .long (lN mp), .ref mS, .int (nI pd), .int (nI ht)])), (mK, .inl (cI, 4096, .inl K))] H := hP
  have hD : va_D A [(m0, .inr (2, [.int (nI 0), .int (nI cap), .ref mK, .ref mT, .ref mU, .ref mV, .int (nI n), .int (nI hi), .int (nI ru), .ref mL, .int (nI me), .long (lN mp), .ref mS, .int (nI pd), .int (nI ht)])), (mK, .inl (cI, 4096, .inl K))] := hD
  refine lv_iload_n hx hb dX2_keyAt_5 rfl (lv_at hl 1 rfl) ?_
  refine lv_if_lt (tgt := 26) hx hb dX2_keyAt_6 (by decide) (fun c_6 => ?_) (fun c_6 => ?_)
  · have hans : nI 0 = atV K ix n := atV_out hn (by rintro ⟨j, hj, rfl⟩; exact nI_pos (by omega) c_6)
    refine lv_iconst (v := nI 0) hx hb dX2_keyAt_26 (by decide) ?_
    exact hret () _ _ _ _ _ _ _ (hans) hP hK hD hS (Nat.le_of_ble_eq_true rfl) (Nat.le_of_ble_eq_true rfl) (rfl) dX2_keyAt_27
  · obtain ⟨j, hj, rfl⟩ := nI_of c_6
    refine lv_iload_n hx hb dX2_keyAt_9 rfl (lv_at hl 1 rfl) ?_
    refine lv_aload_n hx hb dX2_keyAt_10 rfl (lv_at hl 0 rfl) ?_
    refine va_get (D := (dC, dI)) (ci := 2) (v := .int (nI n)) (C := RX2) (T := TX2) (N := 15) hx hb hts hin_2 hown hK hP 0 rfl rfl 6 (by decide) k_2 (fun _ h9 => h9) rfl dX2_keyAt_11 ?_
    refine xr_icmp_ge (tgt := 26) hx hb dX2_keyAt_14 (by decide) (by omega) (by omega) (fun c_14 => ?_) (fun c_14 => ?_)
    · have hans : nI 0 = atV K (nI j) n := atV_out hn (by rintro ⟨j2, hj2, e9⟩; have := (nI_eq hj (by omega)).mp e9; omega)
      refine lv_iconst (v := nI 0) hx hb dX2_keyAt_26 (by decide) ?_
      exact hret () _ _ _ _ _ _ _ (hans) hP hK hD hS (Nat.le_of_ble_eq_true rfl) (Nat.le_of_ble_eq_true rfl) (rfl) dX2_keyAt_27
    · have hans : K j = atV K (nI j) n := atV_in c_14 hn
      refine lv_aload_n hx hb dX2_keyAt_17 rfl (lv_at hl 0 rfl) ?_
      refine va_get (D := (dC, dI)) (ci := 2) (v := .ref mK) (C := RX2) (T := TX2) (N := 15) hx hb hts hin_2 hown hK hP 0 rfl rfl 2 (by decide) k_3 (fun _ h9 => h9) rfl dX2_keyAt_18 ?_
      refine lv_iload_n hx hb dX2_keyAt_21 rfl (lv_at hl 1 rfl) ?_
      refine xr_iald hx hb hK hP 1 1 rfl rfl (by omega) (by omega) dX2_keyAt_22 ?_
      refine lv_goto (tgt := 27) hx hb dX2_keyAt_23 (by decide) ?_
      exact hret () _ _ _ _ _ _ _ (hans) hP hK hD hS (Nat.le_of_ble_eq_true rfl) (Nat.le_of_ble_eq_true rfl) (rfl) dX2_keyAt_27
abbrev rmX2_tagAt : Room := { frames := 0, cells := 0, slots := 0, locals := 0 }
set_option maxRecDepth 100000 in
set_option maxHeartbeats 4000000 in
theorem c_X2_tagAt (l : Launch) (dC : Nat → ClassId) (dI : Nat → Nat → Nat) (cJ cI : ClassId) (m0 mK mT mU mV mL mS th cap n hi ru me mp pd ht : Nat) (T : Nat → Int32) (ix : Int32) (hn : n ≤ 4096) : CI l yX2_tagAt wsX2_tagAt rmX2_tagAt [.ref m0, .int ix] (dC, dI) vwCl (KT cJ cI) [(m0, .inr (2, [.int (nI th), .int (nI cap), .ref mK, .ref mT, .ref mU, .ref mV, .int (nI n), .int (nI hi), .int (nI ru), .ref mL, .int (nI me), .long (lN mp), .ref mS, .int (nI pd), .int (nI ht)])), (mT, .inl (cI, 4096, .inl T))] (S := Unit) (fun r _ => r = atV T ix n) (fun _ => KT cJ cI) (fun _ => [(m0, .inr (2, [.int (nI 0), .int (nI cap), .ref mK, .ref mT, .ref mU, .ref mV, .int (nI n), .int (nI hi), .int (nI ru), .ref mL, .int (nI me), .long (lN mp), .ref mS, .int (nI pd), .int (nI ht)])), (mT, .inl (cI, 4096, .inl T))]) := by
  refine CI.mk (by decide) rfl (Nat.le_of_ble_eq_true rfl) ?_
  intro p e s m args below meth c A Q ls hx hb hml hown hts hA hS hP hD hK hN hl hret
  have hl : lv_has ls 2 [(0, .ref m0), (1, .int ix)] := hl
  have hin_2 : ∀ w ∈ u_ws RX2 TX2 15, w ∈ wsX2_tagAt := by decide +kernel
  have k_1 := hts (Cond.fieldLink RX2 32 "PairSorterModel" "thrown" "I") (by decide +kernel)
  have k_2 := hts (Cond.fieldLink RX2 35 "PairSorterModel" "size" "I") (by decide +kernel)
  have k_3 := hts (Cond.fieldLink RX2 13 "PairSorterModel" "tags" "[I") (by decide +kernel)
  refine lv_aload_n hx hb dX2_tagAt_0 rfl (lv_at hl 0 rfl) ?_
  refine lv_iconst (v := nI 0) hx hb dX2_tagAt_1 (by decide) ?_
  refine va_put (D := (dC, dI)) (ci := 2) (v := .int (nI 0)) (ty := .int) (C := RX2) (T := TX2) (N := 15) hx hb hts hin_2 tyX2 tyX2_ok nmX2 hown hK hP hD hS 0 rfl rfl 0 (by decide) k_1 (fun _ h9 => h9) rfl (by decide +kernel) rfl rfl (Nat.le_of_ble_eq_true rfl) dX2_tagAt_2 (fun H locs hP hD hS => ?_)
  have hP : va_P (dC, dI) vwCl [(m0, .inr (2, [.int (nI 0), .int (nI cap), .ref mK, .ref mT, .ref mU, .ref mV, .int (nI n), .int (nI hi), .int (nI ru), .ref mL, .int (nI me), .long (lN mp), .ref mS, .int (nI pd), .int (nI ht)])), (mT, .inl (cI, 4096, .inl T))] H := hP
  have hD : va_D A [(m0, .inr (2, [.int (nI 0), .int (nI cap), .ref mK, .ref mT, .ref mU, .ref mV, .int (nI n), .int (nI hi), .int (nI ru), .ref mL, .int (nI me), .long (lN mp), .ref mS, .int (nI pd), .int (nI ht)])), (mT, .inl (cI, 4096, .inl T))] := hD
  refine lv_iload_n hx hb dX2_tagAt_5 rfl (lv_at hl 1 rfl) ?_
  refine lv_if_lt (tgt := 26) hx hb dX2_tagAt_6 (by decide) (fun c_6 => ?_) (fun c_6 => ?_)
  · have hans : nI 0 = atV T ix n := atV_out hn (by rintro ⟨j, hj, rfl⟩; exact nI_pos (by omega) c_6)
    refine lv_iconst (v := nI 0) hx hb dX2_tagAt_26 (by decide) ?_
    exact hret () _ _ _ _ _ _ _ (hans) hP hK hD hS (Nat.le_of_ble_eq_true rfl) (Nat.le_of_ble_eq_true rfl) (rfl) dX2_tagAt_27
  · obtain ⟨j, hj, rfl⟩ := nI_of c_6
    refine lv_iload_n hx hb dX2_tagAt_9 rfl (lv_at hl 1 rfl) ?_
    refine lv_aload_n hx hb dX2_tagAt_10 rfl (lv_at hl 0 rfl) ?_
    refine va_get (D := (dC, dI)) (ci := 2) (v := .int (nI n)) (C := RX2) (T := TX2) (N := 15) hx hb hts hin_2 hown hK hP 0 rfl rfl 6 (by decide) k_2 (fun _ h9 => h9) rfl dX2_tagAt_11 ?_
    refine xr_icmp_ge (tgt := 26) hx hb dX2_tagAt_14 (by decide) (by omega) (by omega) (fun c_14 => ?_) (fun c_14 => ?_)
    · have hans : nI 0 = atV T (nI j) n := atV_out hn (by rintro ⟨j2, hj2, e9⟩; have := (nI_eq hj (by omega)).mp e9; omega)
      refine lv_iconst (v := nI 0) hx hb dX2_tagAt_26 (by decide) ?_
      exact hret () _ _ _ _ _ _ _ (hans) hP hK hD hS (Nat.le_of_ble_eq_true rfl) (Nat.le_of_ble_eq_true rfl) (rfl) dX2_tagAt_27
    · have hans : T j = atV T (nI j) n := atV_in c_14 hn
      refine lv_aload_n hx hb dX2_tagAt_17 rfl (lv_at hl 0 rfl) ?_
      refine va_get (D := (dC, dI)) (ci := 2) (v := .ref mT) (C := RX2) (T := TX2) (N := 15) hx hb hts hin_2 hown hK hP 0 rfl rfl 3 (by decide) k_3 (fun _ h9 => h9) rfl dX2_tagAt_18 ?_
      refine lv_iload_n hx hb dX2_tagAt_21 rfl (lv_at hl 1 rfl) ?_
      refine xr_iald hx hb hK hP 1 1 rfl rfl (by omega) (by omega) dX2_tagAt_22 ?_
      refine lv_goto (tgt := 27) hx hb dX2_tagAt_23 (by decide) ?_
      exact hret () _ _ _ _ _ _ _ (hans) hP hK hD hS (Nat.le_of_ble_eq_true rfl) (Nat.le_of_ble_eq_true rfl) (rfl) dX2_tagAt_27
abbrev rmX2_size : Room := { frames := 0, cells := 0, slots := 0, locals := 0 }
set_option maxRecDepth 100000 in
set_option maxHeartbeats 4000000 in
theorem c_X2_size (l : Launch) (dC : Nat → ClassId) (dI : Nat → Nat → Nat) (cJ cI : ClassId) (m0 mK mT mU mV mL mS th cap n hi ru me mp pd ht : Nat)  : CI l yX2_size wsX2_size rmX2_size [.ref m0] (dC, dI) vwCl (KT cJ cI) [(m0, .inr (2, [.int (nI th), .int (nI cap), .ref mK, .ref mT, .ref mU, .ref mV, .int (nI n), .int (nI hi), .int (nI ru), .ref mL, .int (nI me), .long (lN mp), .ref mS, .int (nI pd), .int (nI ht)]))] (S := Unit) (fun r _ => r = nI n) (fun _ => KT cJ cI) (fun _ => [(m0, .inr (2, [.int (nI 0), .int (nI cap), .ref mK, .ref mT, .ref mU, .ref mV, .int (nI n), .int (nI hi), .int (nI ru), .ref mL, .int (nI me), .long (lN mp), .ref mS, .int (nI pd), .int (nI ht)]))]) := by
  refine CI.mk (by decide) rfl (Nat.le_of_ble_eq_true rfl) ?_
  intro p e s m args below meth c A Q ls hx hb hml hown hts hA hS hP hD hK hN hl hret
  have hl : lv_has ls 1 [(0, .ref m0)] := hl
  have hin_2 : ∀ w ∈ u_ws RX2 TX2 15, w ∈ wsX2_size := by decide +kernel
  have k_1 := hts (Cond.fieldLink RX2 32 "PairSorterModel" "thrown" "I") (by decide +kernel)
  have k_2 := hts (Cond.fieldLink RX2 35 "PairSorterModel" "size" "I") (by decide +kernel)
  refine lv_aload_n hx hb dX2_size_0 rfl (lv_at hl 0 rfl) ?_
  refine lv_iconst (v := nI 0) hx hb dX2_size_1 (by decide) ?_
  refine va_put (D := (dC, dI)) (ci := 2) (v := .int (nI 0)) (ty := .int) (C := RX2) (T := TX2) (N := 15) hx hb hts hin_2 tyX2 tyX2_ok nmX2 hown hK hP hD hS 0 rfl rfl 0 (by decide) k_1 (fun _ h9 => h9) rfl (by decide +kernel) rfl rfl (Nat.le_of_ble_eq_true rfl) dX2_size_2 (fun H locs hP hD hS => ?_)
  have hP : va_P (dC, dI) vwCl [(m0, .inr (2, [.int (nI 0), .int (nI cap), .ref mK, .ref mT, .ref mU, .ref mV, .int (nI n), .int (nI hi), .int (nI ru), .ref mL, .int (nI me), .long (lN mp), .ref mS, .int (nI pd), .int (nI ht)]))] H := hP
  have hD : va_D A [(m0, .inr (2, [.int (nI 0), .int (nI cap), .ref mK, .ref mT, .ref mU, .ref mV, .int (nI n), .int (nI hi), .int (nI ru), .ref mL, .int (nI me), .long (lN mp), .ref mS, .int (nI pd), .int (nI ht)]))] := hD
  refine lv_aload_n hx hb dX2_size_5 rfl (lv_at hl 0 rfl) ?_
  refine va_get (D := (dC, dI)) (ci := 2) (v := .int (nI n)) (C := RX2) (T := TX2) (N := 15) hx hb hts hin_2 hown hK hP 0 rfl rfl 6 (by decide) k_2 (fun _ h9 => h9) rfl dX2_size_6 ?_
  exact hret () _ _ _ _ _ _ _ (rfl) hP hK hD hS (Nat.le_of_ble_eq_true rfl) (Nat.le_of_ble_eq_true rfl) (rfl) dX2_size_9
abbrev rmX2_stackHigh : Room := { frames := 0, cells := 0, slots := 0, locals := 0 }
set_option maxRecDepth 100000 in
set_option maxHeartbeats 4000000 in
theorem c_X2_stackHigh (l : Launch) (dC : Nat → ClassId) (dI : Nat → Nat → Nat) (cJ cI : ClassId) (m0 mK mT mU mV mL mS th cap n hi ru me mp pd ht : Nat)  : CI l yX2_stackHigh wsX2_stackHigh rmX2_stackHigh [.ref m0] (dC, dI) vwCl (KT cJ cI) [(m0, .inr (2, [.int (nI th), .int (nI cap), .ref mK, .ref mT, .ref mU, .ref mV, .int (nI n), .int (nI hi), .int (nI ru), .ref mL, .int (nI me), .long (lN mp), .ref mS, .int (nI pd), .int (nI ht)]))] (S := Unit) (fun r _ => r = nI hi) (fun _ => KT cJ cI) (fun _ => [(m0, .inr (2, [.int (nI 0), .int (nI cap), .ref mK, .ref mT, .ref mU, .ref mV, .int (nI n), .int (nI hi), .int (nI ru), .ref mL, .int (nI me), .long (lN mp), .ref mS, .int (nI pd), .int (nI ht)]))]) := by
  refine CI.mk (by decide) rfl (Nat.le_of_ble_eq_true rfl) ?_
  intro p e s m args below meth c A Q ls hx hb hml hown hts hA hS hP hD hK hN hl hret
  have hl : lv_has ls 1 [(0, .ref m0)] := hl
  have hin_2 : ∀ w ∈ u_ws RX2 TX2 15, w ∈ wsX2_stackHigh := by decide +kernel
  have k_1 := hts (Cond.fieldLink RX2 32 "PairSorterModel" "thrown" "I") (by decide +kernel)
  have k_2 := hts (Cond.fieldLink RX2 79 "PairSorterModel" "high" "I") (by decide +kernel)
  refine lv_aload_n hx hb dX2_stackHigh_0 rfl (lv_at hl 0 rfl) ?_
  refine lv_iconst (v := nI 0) hx hb dX2_stackHigh_1 (by decide) ?_
  refine va_put (D := (dC, dI)) (ci := 2) (v := .int (nI 0)) (ty := .int) (C := RX2) (T := TX2) (N := 15) hx hb hts hin_2 tyX2 tyX2_ok nmX2 hown hK hP hD hS 0 rfl rfl 0 (by decide) k_1 (fun _ h9 => h9) rfl (by decide +kernel) rfl rfl (Nat.le_of_ble_eq_true rfl) dX2_stackHigh_2 (fun H locs hP hD hS => ?_)
  have hP : va_P (dC, dI) vwCl [(m0, .inr (2, [.int (nI 0), .int (nI cap), .ref mK, .ref mT, .ref mU, .ref mV, .int (nI n), .int (nI hi), .int (nI ru), .ref mL, .int (nI me), .long (lN mp), .ref mS, .int (nI pd), .int (nI ht)]))] H := hP
  have hD : va_D A [(m0, .inr (2, [.int (nI 0), .int (nI cap), .ref mK, .ref mT, .ref mU, .ref mV, .int (nI n), .int (nI hi), .int (nI ru), .ref mL, .int (nI me), .long (lN mp), .ref mS, .int (nI pd), .int (nI ht)]))] := hD
  refine lv_aload_n hx hb dX2_stackHigh_5 rfl (lv_at hl 0 rfl) ?_
  refine va_get (D := (dC, dI)) (ci := 2) (v := .int (nI hi)) (C := RX2) (T := TX2) (N := 15) hx hb hts hin_2 hown hK hP 0 rfl rfl 7 (by decide) k_2 (fun _ h9 => h9) rfl dX2_stackHigh_6 ?_
  exact hret () _ _ _ _ _ _ _ (rfl) hP hK hD hS (Nat.le_of_ble_eq_true rfl) (Nat.le_of_ble_eq_true rfl) (rfl) dX2_stackHigh_9
abbrev rmX2_clear : Room := { frames := 0, cells := 0, slots := 0, locals := 0 }
set_option maxRecDepth 100000 in
set_option maxHeartbeats 4000000 in
theorem c_X2_clear (l : Launch) (dC : Nat → ClassId) (dI : Nat → Nat → Nat) (cJ cI : ClassId) (m0 mK mT mU mV mL mS th cap n hi ru me mp pd ht : Nat)  : CV l yX2_clear wsX2_clear rmX2_clear [.ref m0] (dC, dI) vwCl (KT cJ cI) [(m0, .inr (2, [.int (nI th), .int (nI cap), .ref mK, .ref mT, .ref mU, .ref mV, .int (nI n), .int (nI hi), .int (nI ru), .ref mL, .int (nI me), .long (lN mp), .ref mS, .int (nI pd), .int (nI ht)]))] (S := Unit) (fun _ => True) (fun _ => KT cJ cI) (fun _ => [(m0, .inr (2, [.int (nI 0), .int (nI cap), .ref mK, .ref mT, .ref mU, .ref mV, .int (nI 0), .int (nI 0), .int (nI 0), .ref mL, .int (nI 0), .long (lN 0), .ref mS, .int (nI pd), .int (nI ht)]))]) := by
  refine CV.mk (by decide) rfl (Nat.le_of_ble_eq_true rfl) ?_
  intro p e s m args below meth c A Q ls hx hb hml hown hts hin hA hS hP hD hK hN hl hret
  have hl : lv_has ls 1 [(0, .ref m0)] := hl
  have hin_2 : ∀ w ∈ u_ws RX2 TX2 15, w ∈ wsX2_clear := by decide +kernel
  have k_1 := hts (Cond.fieldLink RX2 32 "PairSorterModel" "thrown" "I") (by decide +kernel)
  have k_2 := hts (Cond.fieldLink RX2 35 "PairSorterModel" "size" "I") (by decide +kernel)
  have k_3 := hts (Cond.fieldLink RX2 79 "PairSorterModel" "high" "I") (by decide +kernel)
  have k_4 := hts (Cond.fieldLink RX2 62 "PairSorterModel" "runs" "I") (by decide +kernel)
  have k_5 := hts (Cond.fieldLink RX2 38 "PairSorterModel" "merges" "I") (by decide +kernel)
  have k_6 := hts (Cond.fieldLink RX2 41 "PairSorterModel" "merged" "J") (by decide +kernel)
  refine lv_aload_n hx hb dX2_clear_0 rfl (lv_at hl 0 rfl) ?_
  refine lv_iconst (v := nI 0) hx hb dX2_clear_1 (by decide) ?_
  refine va_put (D := (dC, dI)) (ci := 2) (v := .int (nI 0)) (ty := .int) (C := RX2) (T := TX2) (N := 15) hx hb hts hin_2 tyX2 tyX2_ok nmX2 hown hK hP hD hS 0 rfl rfl 0 (by decide) k_1 (fun _ h9 => h9) rfl (by decide +kernel) rfl rfl (Nat.le_of_ble_eq_true rfl) dX2_clear_2 (fun H locs hP hD hS => ?_)
  have hP : va_P (dC, dI) vwCl [(m0, .inr (2, [.int (nI 0), .int (nI cap), .ref mK, .ref mT, .ref mU, .ref mV, .int (nI n), .int (nI hi), .int (nI ru), .ref mL, .int (nI me), .long (lN mp), .ref mS, .int (nI pd), .int (nI ht)]))] H := hP
  have hD : va_D A [(m0, .inr (2, [.int (nI 0), .int (nI cap), .ref mK, .ref mT, .ref mU, .ref mV, .int (nI n), .int (nI hi), .int (nI ru), .ref mL, .int (nI me), .long (lN mp), .ref mS, .int (nI pd), .int (nI ht)]))] := hD
  refine lv_aload_n hx hb dX2_clear_5 rfl (lv_at hl 0 rfl) ?_
  refine lv_iconst (v := nI 0) hx hb dX2_clear_6 (by decide) ?_
  refine va_put (D := (dC, dI)) (ci := 2) (v := .int (nI 0)) (ty := .int) (C := RX2) (T := TX2) (N := 15) hx hb hts hin_2 tyX2 tyX2_ok nmX2 hown hK hP hD hS 0 rfl rfl 6 (by decide) k_2 (fun _ h9 => h9) rfl (by decide +kernel) rfl rfl (Nat.le_of_ble_eq_true rfl) dX2_clear_7 (fun H locs hP hD hS => ?_)
  have hP : va_P (dC, dI) vwCl [(m0, .inr (2, [.int (nI 0), .int (nI cap), .ref mK, .ref mT, .ref mU, .ref mV, .int (nI 0), .int (nI hi), .int (nI ru), .ref mL, .int (nI me), .long (lN mp), .ref mS, .int (nI pd), .int (nI ht)]))] H := hP
  have hD : va_D A [(m0, .inr (2, [.int (nI 0), .int (nI cap), .ref mK, .ref mT, .ref mU, .ref mV, .int (nI 0), .int (nI hi), .int (nI ru), .ref mL, .int (nI me), .long (lN mp), .ref mS, .int (nI pd), .int (nI ht)]))] := hD
  refine lv_aload_n hx hb dX2_clear_10 rfl (lv_at hl 0 rfl) ?_
  refine lv_iconst (v := nI 0) hx hb dX2_clear_11 (by decide) ?_
  refine va_put (D := (dC, dI)) (ci := 2) (v := .int (nI 0)) (ty := .int) (C := RX2) (T := TX2) (N := 15) hx hb hts hin_2 tyX2 tyX2_ok nmX2 hown hK hP hD hS 0 rfl rfl 7 (by decide) k_3 (fun _ h9 => h9) rfl (by decide +kernel) rfl rfl (Nat.le_of_ble_eq_true rfl) dX2_clear_12 (fun H locs hP hD hS => ?_)
  have hP : va_P (dC, dI) vwCl [(m0, .inr (2, [.int (nI 0), .int (nI cap), .ref mK, .ref mT, .ref mU, .ref mV, .int (nI 0), .int (nI 0), .int (nI ru), .ref mL, .int (nI me), .long (lN mp), .ref mS, .int (nI pd), .int (nI ht)]))] H := hP
  have hD : va_D A [(m0, .inr (2, [.int (nI 0), .int (nI cap), .ref mK, .ref mT, .ref mU, .ref mV, .int (nI 0), .int (nI 0), .int (nI ru), .ref mL, .int (nI me), .long (lN mp), .ref mS, .int (nI pd), .int (nI ht)]))] := hD
  refine lv_aload_n hx hb dX2_clear_15 rfl (lv_at hl 0 rfl) ?_
  refine lv_iconst (v := nI 0) hx hb dX2_clear_16 (by decide) ?_
  refine va_put (D := (dC, dI)) (ci := 2) (v := .int (nI 0)) (ty := .int) (C := RX2) (T := TX2) (N := 15) hx hb hts hin_2 tyX2 tyX2_ok nmX2 hown hK hP hD hS 0 rfl rfl 8 (by decide) k_4 (fun _ h9 => h9) rfl (by decide +kernel) rfl rfl (Nat.le_of_ble_eq_true rfl) dX2_clear_17 (fun H locs hP hD hS => ?_)
  have hP : va_P (dC, dI) vwCl [(m0, .inr (2, [.int (nI 0), .int (nI cap), .ref mK, .ref mT, .ref mU, .ref mV, .int (nI 0), .int (nI 0), .int (nI 0), .ref mL, .int (nI me), .long (lN mp), .ref mS, .int (nI pd), .int (nI ht)]))] H := hP
  have hD : va_D A [(m0, .inr (2, [.int (nI 0), .int (nI cap), .ref mK, .ref mT, .ref mU, .ref mV, .int (nI 0), .int (nI 0), .int (nI 0), .ref mL, .int (nI me), .long (lN mp), .ref mS, .int (nI pd), .int (nI ht)]))] := hD
  refine lv_aload_n hx hb dX2_clear_20 rfl (lv_at hl 0 rfl) ?_
  refine lv_iconst (v := nI 0) hx hb dX2_clear_21 (by decide) ?_
  refine va_put (D := (dC, dI)) (ci := 2) (v := .int (nI 0)) (ty := .int) (C := RX2) (T := TX2) (N := 15) hx hb hts hin_2 tyX2 tyX2_ok nmX2 hown hK hP hD hS 0 rfl rfl 10 (by decide) k_5 (fun _ h9 => h9) rfl (by decide +kernel) rfl rfl (Nat.le_of_ble_eq_true rfl) dX2_clear_22 (fun H locs hP hD hS => ?_)
  have hP : va_P (dC, dI) vwCl [(m0, .inr (2, [.int (nI 0), .int (nI cap), .ref mK, .ref mT, .ref mU, .ref mV, .int (nI 0), .int (nI 0), .int (nI 0), .ref mL, .int (nI 0), .long (lN mp), .ref mS, .int (nI pd), .int (nI ht)]))] H := hP
  have hD : va_D A [(m0, .inr (2, [.int (nI 0), .int (nI cap), .ref mK, .ref mT, .ref mU, .ref mV, .int (nI 0), .int (nI 0), .int (nI 0), .ref mL, .int (nI 0), .long (lN mp), .ref mS, .int (nI pd), .int (nI ht)]))] := hD
  refine lv_aload_n hx hb dX2_clear_25 rfl (lv_at hl 0 rfl) ?_
  refine lv_lconst (v := lN 0) hx hb dX2_clear_26 (by decide) ?_
  refine va_put (D := (dC, dI)) (ci := 2) (v := .long (lN 0)) (ty := .long) (C := RX2) (T := TX2) (N := 15) hx hb hts hin_2 tyX2 tyX2_ok nmX2 hown hK hP hD hS 0 rfl rfl 11 (by decide) k_6 (fun _ h9 => h9) rfl (by decide +kernel) rfl rfl (Nat.le_of_ble_eq_true rfl) dX2_clear_27 (fun H locs hP hD hS => ?_)
  have hP : va_P (dC, dI) vwCl [(m0, .inr (2, [.int (nI 0), .int (nI cap), .ref mK, .ref mT, .ref mU, .ref mV, .int (nI 0), .int (nI 0), .int (nI 0), .ref mL, .int (nI 0), .long (lN 0), .ref mS, .int (nI pd), .int (nI ht)]))] H := hP
  have hD : va_D A [(m0, .inr (2, [.int (nI 0), .int (nI cap), .ref mK, .ref mT, .ref mU, .ref mV, .int (nI 0), .int (nI 0), .int (nI 0), .ref mL, .int (nI 0), .long (lN 0), .ref mS, .int (nI pd), .int (nI ht)]))] := hD
  exact hret () _ _ _ _ _ _ (trivial) hP hK hD hS (Nat.le_of_ble_eq_true rfl) (Nat.le_of_ble_eq_true rfl) dX2_clear_30
abbrev rmX2_work : Room := { frames := 0, cells := 0, slots := 0, locals := 0 }
set_option maxRecDepth 100000 in
set_option maxHeartbeats 4000000 in
theorem c_X2_work (l : Launch) (dC : Nat → ClassId) (dI : Nat → Nat → Nat) (cJ cI : ClassId) (m0 mK mT mU mV mL mS th cap n hi ru me mp pd ht : Nat) (ln : Nat → Nat) (wh ix : Int32) (hr : ru ≤ 4096) : CL l yX2_work wsX2_work rmX2_work [.ref m0, .int wh, .int ix] (dC, dI) vwCl (KT cJ cI) [(m0, .inr (2, [.int (nI th), .int (nI cap), .ref mK, .ref mT, .ref mU, .ref mV, .int (nI n), .int (nI hi), .int (nI ru), .ref mL, .int (nI me), .long (lN mp), .ref mS, .int (nI pd), .int (nI ht)])), (mL, .inl (cI, 4096, .inl (fun j => nI (ln j))))] (S := Unit) (fun r _ => r = wkV wh ix ru ln me (lN mp)) (fun _ => KT cJ cI) (fun _ => [(m0, .inr (2, [.int (nI 0), .int (nI cap), .ref mK, .ref mT, .ref mU, .ref mV, .int (nI n), .int (nI hi), .int (nI ru), .ref mL, .int (nI me), .long (lN mp), .ref mS, .int (nI pd), .int (nI ht)])), (mL, .inl (cI, 4096, .inl (fun j => nI (ln j))))]) := by
  refine CL.mk (by decide) rfl (Nat.le_of_ble_eq_true rfl) ?_
  intro p e s m args below meth c A Q ls hx hb hml hown hts hA hS hP hD hK hN hl hret
  have hl : lv_has ls 3 [(0, .ref m0), (1, .int wh), (2, .int ix)] := hl
  have hin_2 : ∀ w ∈ u_ws RX2 TX2 15, w ∈ wsX2_work := by decide +kernel
  have k_1 := hts (Cond.fieldLink RX2 32 "PairSorterModel" "thrown" "I") (by decide +kernel)
  have k_2 := hts (Cond.fieldLink RX2 41 "PairSorterModel" "merged" "J") (by decide +kernel)
  have k_3 := hts (Cond.fieldLink RX2 38 "PairSorterModel" "merges" "I") (by decide +kernel)
  have k_4 := hts (Cond.fieldLink RX2 62 "PairSorterModel" "runs" "I") (by decide +kernel)
  have k_5 := hts (Cond.fieldLink RX2 22 "PairSorterModel" "lengths" "[I") (by decide +kernel)
  refine lv_aload_n hx hb dX2_work_0 rfl (lv_at hl 0 rfl) ?_
  refine lv_iconst (v := nI 0) hx hb dX2_work_1 (by decide) ?_
  refine va_put (D := (dC, dI)) (ci := 2) (v := .int (nI 0)) (ty := .int) (C := RX2) (T := TX2) (N := 15) hx hb hts hin_2 tyX2 tyX2_ok nmX2 hown hK hP hD hS 0 rfl rfl 0 (by decide) k_1 (fun _ h9 => h9) rfl (by decide +kernel) rfl rfl (Nat.le_of_ble_eq_true rfl) dX2_work_2 (fun H locs hP hD hS => ?_)
  have hP : va_P (dC, dI) vwCl [(m0, .inr (2, [.int (nI 0), .int (nI cap), .ref mK, .ref mT, .ref mU, .ref mV, .int (nI n), .int (nI hi), .int (nI ru), .ref mL, .int (nI me), .long (lN mp), .ref mS, .int (nI pd), .int (nI ht)])), (mL, .inl (cI, 4096, .inl (fun j => nI (ln j))))] H := hP
  have hD : va_D A [(m0, .inr (2, [.int (nI 0), .int (nI cap), .ref mK, .ref mT, .ref mU, .ref mV, .int (nI n), .int (nI hi), .int (nI ru), .ref mL, .int (nI me), .long (lN mp), .ref mS, .int (nI pd), .int (nI ht)])), (mL, .inl (cI, 4096, .inl (fun j => nI (ln j))))] := hD
  refine lv_iload_n hx hb dX2_work_5 rfl (lv_at hl 1 rfl) ?_
  refine lv_iconst (v := nI 3) hx hb dX2_work_6 (by decide) ?_
  refine lv_icmp_ne (tgt := 34) hx hb dX2_work_7 (by decide) (fun c_7 => ?_) (fun c_7 => ?_)
  · refine lv_iload_n hx hb dX2_work_34 rfl (lv_at hl 1 rfl) ?_
    refine lv_if_ne (tgt := 46) hx hb dX2_work_35 (by decide) (fun c_35 => ?_) (fun c_35 => ?_)
    · have w0 : ¬ wh = nI 0 := fun q => c_35 (q.trans nI_0)
      refine lv_iload_n hx hb dX2_work_46 rfl (lv_at hl 1 rfl) ?_
      refine lv_iconst (v := nI 1) hx hb dX2_work_47 (by decide) ?_
      refine lv_icmp_ne (tgt := 59) hx hb dX2_work_48 (by decide) (fun c_48 => ?_) (fun c_48 => ?_)
      · refine lv_iload_n hx hb dX2_work_59 rfl (lv_at hl 1 rfl) ?_
        refine lv_iconst (v := nI 2) hx hb dX2_work_60 (by decide) ?_
        refine lv_icmp_ne (tgt := 71) hx hb dX2_work_61 (by decide) (fun c_61 => ?_) (fun c_61 => ?_)
        · have hz : lN 0 = wkV wh ix ru ln me (lN mp) := by unfold wkV; rw [if_neg w0, if_neg c_48, if_neg c_61, if_neg c_7]
          refine lv_lconst (v := lN 0) hx hb dX2_work_71 (by decide) ?_
          exact hret () _ _ _ _ _ _ _ (hz) hP hK hD hS (Nat.le_of_ble_eq_true rfl) (Nat.le_of_ble_eq_true rfl) dX2_work_72
        · have hz : lN mp = wkV wh ix ru ln me (lN mp) := by unfold wkV; rw [if_neg w0, if_neg c_48, if_pos c_61]
          refine lv_aload_n hx hb dX2_work_64 rfl (lv_at hl 0 rfl) ?_
          refine va_get (D := (dC, dI)) (ci := 2) (v := .long (lN mp)) (C := RX2) (T := TX2) (N := 15) hx hb hts hin_2 hown hK hP 0 rfl rfl 11 (by decide) k_2 (fun _ h9 => h9) rfl dX2_work_65 ?_
          refine lv_goto (tgt := 72) hx hb dX2_work_68 (by decide) ?_
          exact hret () _ _ _ _ _ _ _ (hz) hP hK hD hS (Nat.le_of_ble_eq_true rfl) (Nat.le_of_ble_eq_true rfl) dX2_work_72
      · have hz : (nI me).toInt64 = wkV wh ix ru ln me (lN mp) := by unfold wkV; rw [if_neg w0, if_pos c_48]
        refine lv_aload_n hx hb dX2_work_51 rfl (lv_at hl 0 rfl) ?_
        refine va_get (D := (dC, dI)) (ci := 2) (v := .int (nI me)) (C := RX2) (T := TX2) (N := 15) hx hb hts hin_2 hown hK hP 0 rfl rfl 10 (by decide) k_3 (fun _ h9 => h9) rfl dX2_work_52 ?_
        refine lv_i2l hx hb dX2_work_55 rfl ?_
        refine lv_goto (tgt := 72) hx hb dX2_work_56 (by decide) ?_
        exact hret () _ _ _ _ _ _ _ (hz) hP hK hD hS (Nat.le_of_ble_eq_true rfl) (Nat.le_of_ble_eq_true rfl) dX2_work_72
    · have hz : (nI ru).toInt64 = wkV wh ix ru ln me (lN mp) := by unfold wkV; rw [if_pos (c_35.trans nI_0.symm)]
      refine lv_aload_n hx hb dX2_work_38 rfl (lv_at hl 0 rfl) ?_
      refine va_get (D := (dC, dI)) (ci := 2) (v := .int (nI ru)) (C := RX2) (T := TX2) (N := 15) hx hb hts hin_2 hown hK hP 0 rfl rfl 8 (by decide) k_4 (fun _ h9 => h9) rfl dX2_work_39 ?_
      refine lv_i2l hx hb dX2_work_42 rfl ?_
      refine lv_goto (tgt := 72) hx hb dX2_work_43 (by decide) ?_
      exact hret () _ _ _ _ _ _ _ (hz) hP hK hD hS (Nat.le_of_ble_eq_true rfl) (Nat.le_of_ble_eq_true rfl) dX2_work_72
  · refine lv_iload_n hx hb dX2_work_10 rfl (lv_at hl 2 rfl) ?_
    refine lv_if_lt (tgt := 32) hx hb dX2_work_11 (by decide) (fun c_11 => ?_) (fun c_11 => ?_)
    · have hz : lN 0 = wkV wh ix ru ln me (lN mp) := by rw [c_7]; unfold wkV; rw [if_neg (by decide), if_neg (by decide), if_neg (by decide), if_pos rfl, if_neg (fun q => by have h2 := (neg_int ix).mp c_11; omega)]
      refine lv_lconst (v := lN 0) hx hb dX2_work_32 (by decide) ?_
      exact hret () _ _ _ _ _ _ _ (hz) hP hK hD hS (Nat.le_of_ble_eq_true rfl) (Nat.le_of_ble_eq_true rfl) dX2_work_33
    · obtain ⟨j, hj, rfl⟩ := nI_of c_11
      refine lv_iload_n hx hb dX2_work_14 rfl (lv_at hl 2 rfl) ?_
      refine lv_aload_n hx hb dX2_work_15 rfl (lv_at hl 0 rfl) ?_
      refine va_get (D := (dC, dI)) (ci := 2) (v := .int (nI ru)) (C := RX2) (T := TX2) (N := 15) hx hb hts hin_2 hown hK hP 0 rfl rfl 8 (by decide) k_4 (fun _ h9 => h9) rfl dX2_work_16 ?_
      refine xr_icmp_ge (tgt := 32) hx hb dX2_work_19 (by decide) (by omega) (by omega) (fun c_19 => ?_) (fun c_19 => ?_)
      · have hz : lN 0 = wkV wh (nI j) ru ln me (lN mp) := by rw [c_7]; unfold wkV; rw [if_neg (by decide), if_neg (by decide), if_neg (by decide), if_pos rfl, nI_toInt hj, if_neg (by omega)]
        refine lv_lconst (v := lN 0) hx hb dX2_work_32 (by decide) ?_
        exact hret () _ _ _ _ _ _ _ (hz) hP hK hD hS (Nat.le_of_ble_eq_true rfl) (Nat.le_of_ble_eq_true rfl) dX2_work_33
      · have hz : (nI (ln j)).toInt64 = wkV wh (nI j) ru ln me (lN mp) := by rw [c_7]; unfold wkV; rw [if_neg (by decide), if_neg (by decide), if_neg (by decide), if_pos rfl, nI_toInt hj, if_pos (by omega), nI_clamp hj]
        refine lv_aload_n hx hb dX2_work_22 rfl (lv_at hl 0 rfl) ?_
        refine va_get (D := (dC, dI)) (ci := 2) (v := .ref mL) (C := RX2) (T := TX2) (N := 15) hx hb hts hin_2 hown hK hP 0 rfl rfl 9 (by decide) k_5 (fun _ h9 => h9) rfl dX2_work_23 ?_
        refine lv_iload_n hx hb dX2_work_26 rfl (lv_at hl 2 rfl) ?_
        refine xr_iald hx hb hK hP 1 1 rfl rfl (by omega) (by omega) dX2_work_27 ?_
        refine xr_top (y := nI (ln j)) rfl ?_
        refine lv_i2l hx hb dX2_work_28 rfl ?_
        refine lv_goto (tgt := 33) hx hb dX2_work_29 (by decide) ?_
        exact hret () _ _ _ _ _ _ _ (hz) hP hK hD hS (Nat.le_of_ble_eq_true rfl) (Nat.le_of_ble_eq_true rfl) dX2_work_33
abbrev rmX2_sorted : Room := { frames := 0, cells := 0, slots := 0, locals := 0 }
set_option maxRecDepth 100000 in
set_option maxHeartbeats 4000000 in
theorem c_X2_sorted (l : Launch) (dC : Nat → ClassId) (dI : Nat → Nat → Nat) (cJ cI : ClassId) (m0 mK mT mU mV mL mS th cap n hi ru me mp pd ht : Nat) (K : Nat → Int32) (ix : Int32) (hn : n ≤ 4096) : CI l yX2_sorted wsX2_sorted rmX2_sorted [.ref m0, .int ix] (dC, dI) vwCl (KT cJ cI) [(m0, .inr (2, [.int (nI th), .int (nI cap), .ref mK, .ref mT, .ref mU, .ref mV, .int (nI n), .int (nI hi), .int (nI ru), .ref mL, .int (nI me), .long (lN mp), .ref mS, .int (nI pd), .int (nI ht)])), (mK, .inl (cI, 4096, .inl K))] (S := Unit) (fun r _ => r = atV (fun j => nI (1 + cnt (nfl (kG K)) (j + 1) (n - (j + 1)))) ix n) (fun _ => KT cJ cI) (fun _ => [(m0, .inr (2, [.int (nI 0), .int (nI cap), .ref mK, .ref mT, .ref mU, .ref mV, .int (nI n), .int (nI hi), .int (nI ru), .ref mL, .int (nI me), .long (lN mp), .ref mS, .int (nI pd), .int (nI ht)])), (mK, .inl (cI, 4096, .inl K))]) := by
  refine CI.mk (by decide) rfl (Nat.le_of_ble_eq_true rfl) ?_
  intro p e s m args below meth c A Q ls hx hb hml hown hts hA hS hP hD hK hN hl hret
  have hl : lv_has ls 3 [(0, .ref m0), (1, .int ix)] := hl
  have hin_2 : ∀ w ∈ u_ws RX2 TX2 15, w ∈ wsX2_sorted := by decide +kernel
  have k_1 := hts (Cond.fieldLink RX2 32 "PairSorterModel" "thrown" "I") (by decide +kernel)
  have k_2 := hts (Cond.fieldLink RX2 35 "PairSorterModel" "size" "I") (by decide +kernel)
  have k_3 := hts (Cond.fieldLink RX2 7 "PairSorterModel" "keys" "[I") (by decide +kernel)
  refine lv_aload_n hx hb dX2_sorted_0 rfl (lv_at hl 0 rfl) ?_
  refine lv_iconst (v := nI 0) hx hb dX2_sorted_1 (by decide) ?_
  refine va_put (D := (dC, dI)) (ci := 2) (v := .int (nI 0)) (ty := .int) (C := RX2) (T := TX2) (N := 15) hx hb hts hin_2 tyX2 tyX2_ok nmX2 hown hK hP hD hS 0 rfl rfl 0 (by decide) k_1 (fun _ h9 => h9) rfl (by decide +kernel) rfl rfl (Nat.le_of_ble_eq_true rfl) dX2_sorted_2 (fun H locs hP hD hS => ?_)
  have hP : va_P (dC, dI) vwCl [(m0, .inr (2, [.int (nI 0), .int (nI cap), .ref mK, .ref mT, .ref mU, .ref mV, .int (nI n), .int (nI hi), .int (nI ru), .ref mL, .int (nI me), .long (lN mp), .ref mS, .int (nI pd), .int (nI ht)])), (mK, .inl (cI, 4096, .inl K))] H := hP
  have hD : va_D A [(m0, .inr (2, [.int (nI 0), .int (nI cap), .ref mK, .ref mT, .ref mU, .ref mV, .int (nI n), .int (nI hi), .int (nI ru), .ref mL, .int (nI me), .long (lN mp), .ref mS, .int (nI pd), .int (nI ht)])), (mK, .inl (cI, 4096, .inl K))] := hD
  refine lv_iload_n hx hb dX2_sorted_5 rfl (lv_at hl 1 rfl) ?_
  refine lv_if_lt (tgt := 17) hx hb dX2_sorted_6 (by decide) (fun c_6 => ?_) (fun c_6 => ?_)
  · have hans : nI 0 = atV (fun j => nI (1 + cnt (nfl (kG K)) (j + 1) (n - (j + 1)))) ix n := atV_out hn (by rintro ⟨j, hj, rfl⟩; exact nI_pos (by omega) c_6)
    refine lv_iconst (v := nI 0) hx hb dX2_sorted_17 (by decide) ?_
    exact hret () _ _ _ _ _ _ _ (hans) hP hK hD hS (Nat.le_of_ble_eq_true rfl) (Nat.le_of_ble_eq_true rfl) (rfl) dX2_sorted_18
  · obtain ⟨j, hj, rfl⟩ := nI_of c_6
    refine lv_iload_n hx hb dX2_sorted_9 rfl (lv_at hl 1 rfl) ?_
    refine lv_aload_n hx hb dX2_sorted_10 rfl (lv_at hl 0 rfl) ?_
    refine va_get (D := (dC, dI)) (ci := 2) (v := .int (nI n)) (C := RX2) (T := TX2) (N := 15) hx hb hts hin_2 hown hK hP 0 rfl rfl 6 (by decide) k_2 (fun _ h9 => h9) rfl dX2_sorted_11 ?_
    refine xr_icmp_lt (tgt := 19) hx hb dX2_sorted_14 (by decide) (by omega) (by omega) (fun c_14 => ?_) (fun c_14 => ?_)
    · refine lv_iconst (v := nI 1) hx hb dX2_sorted_19 (by decide) ?_
      refine lv_istore_n (lv' := [(2, .int (nI 1)), (0, .ref m0), (1, .int (nI j))]) hx hb dX2_sorted_20 rfl hl (by decide) rfl (fun ls hl => ?_)
      have L_u : ∀ (kq : Nat) (i : Nat), (1 ≤ i) → (j + i ≤ n) → (i + cnt (nfl (kG K)) (j + i) (n - (j + i)) = 1 + cnt (nfl (kG K)) (j + 1) (n - (j + 1))) → n - (j + i) < kq → ∀ (H : Heap) (locs : List Loc) (ls : Array Slot), va_P (dC, dI) vwCl [(m0, .inr (2, [.int (nI 0), .int (nI cap), .ref mK, .ref mT, .ref mU, .ref mV, .int (nI n), .int (nI hi), .int (nI ru), .ref mL, .int (nI me), .long (lN mp), .ref mS, .int (nI pd), .int (nI ht)])), (mK, .inl (cI, 4096, .inl K))] H → va_D A [(m0, .inr (2, [.int (nI 0), .int (nI cap), .ref mK, .ref mT, .ref mU, .ref mV, .int (nI n), .int (nI hi), .int (nI ru), .ref mL, .int (nI me), .long (lN mp), .ref mS, .int (nI pd), .int (nI ht)])), (mK, .inl (cI, 4096, .inl K))] → va_S A s.heap H locs → lv_has ls 3 [(2, .int (nI i)), (0, .ref m0), (1, .int (nI j))] → W p l e rmX2_sorted s m args below meth c H locs 0 0 Q (F0 m 21 ls []) := by
        intro kq
        induction kq with
        | zero =>
          intro i h1 h2 h3 hm
          exact absurd hm (Nat.not_lt_zero _)
        | succ kq ih_u =>
          intro i h1 h2 h3 hm H locs ls hP hD hS hl
          refine lv_iload_n hx hb dX2_sorted_21 rfl (lv_at hl 2 rfl) ?_
          refine lv_iload_n hx hb dX2_sorted_22 rfl (lv_at hl 0 rfl) ?_
          refine xr_iadd hx hb dX2_sorted_23 ?_
          refine lv_aload_n hx hb dX2_sorted_24 rfl (lv_at hl 1 rfl) ?_
          refine va_get (D := (dC, dI)) (ci := 2) (v := .int (nI n)) (C := RX2) (T := TX2) (N := 15) hx hb hts hin_2 hown hK hP 0 rfl rfl 6 (by decide) k_2 (fun _ h9 => h9) rfl dX2_sorted_25 ?_
          refine xr_icmp_ge (tgt := 58) hx hb dX2_sorted_28 (by decide) (by omega) (by omega) (fun c_28 => ?_) (fun c_28 => ?_)
          · have h9 : i = 1 + cnt (nfl (kG K)) (j + 1) (n - (j + 1)) := by rw [show n - (j + i) = 0 by omega] at h3; exact h3
            refine lv_iload_n hx hb dX2_sorted_58 rfl (lv_at hl 0 rfl) ?_
            exact hret () _ _ _ _ _ _ _ (by rw [h9]; exact atV_in (g := fun j => nI (1 + cnt (nfl (kG K)) (j + 1) (n - (j + 1)))) c_14 hn) hP hK hD hS (Nat.le_of_ble_eq_true rfl) (Nat.le_of_ble_eq_true rfl) (rfl) dX2_sorted_59
          · refine lv_aload_n hx hb dX2_sorted_31 rfl (lv_at hl 1 rfl) ?_
            refine va_get (D := (dC, dI)) (ci := 2) (v := .ref mK) (C := RX2) (T := TX2) (N := 15) hx hb hts hin_2 hown hK hP 0 rfl rfl 2 (by decide) k_3 (fun _ h9 => h9) rfl dX2_sorted_32 ?_
            refine lv_iload_n hx hb dX2_sorted_35 rfl (lv_at hl 2 rfl) ?_
            refine lv_iload_n hx hb dX2_sorted_36 rfl (lv_at hl 0 rfl) ?_
            refine xr_iadd hx hb dX2_sorted_37 ?_
            refine xr_iald hx hb hK hP 1 1 rfl rfl (by omega) (by omega) dX2_sorted_38 ?_
            refine lv_aload_n hx hb dX2_sorted_39 rfl (lv_at hl 1 rfl) ?_
            refine va_get (D := (dC, dI)) (ci := 2) (v := .ref mK) (C := RX2) (T := TX2) (N := 15) hx hb hts hin_2 hown hK hP 0 rfl rfl 2 (by decide) k_3 (fun _ h9 => h9) rfl dX2_sorted_40 ?_
            refine lv_iload_n hx hb dX2_sorted_43 rfl (lv_at hl 2 rfl) ?_
            refine lv_iload_n hx hb dX2_sorted_44 rfl (lv_at hl 0 rfl) ?_
            refine xr_iadd hx hb dX2_sorted_45 ?_
            refine lv_iconst (v := nI 1) hx hb dX2_sorted_46 (by decide) ?_
            refine xr_isub hx hb dX2_sorted_47 (by omega) ?_
            refine xr_iald hx hb hK hP 1 1 rfl rfl (by omega) (by omega) dX2_sorted_48 ?_
            refine lv_icmp_lt (tgt := 58) hx hb dX2_sorted_49 (by decide) (fun c_49 => ?_) (fun c_49 => ?_)
            · have hp : nfl (kG K) (j + i) = false := by unfold nfl fl; rw [decide_eq_true (show kG K (j + i) < kG K (j + i - 1) from Int32.lt_iff_toInt_lt.mp c_49)]; rfl
              have h9 : i = 1 + cnt (nfl (kG K)) (j + 1) (n - (j + 1)) := by rw [cnt_f hp] at h3; exact h3
              refine lv_iload_n hx hb dX2_sorted_58 rfl (lv_at hl 0 rfl) ?_
              exact hret () _ _ _ _ _ _ _ (by rw [h9]; exact atV_in (g := fun j => nI (1 + cnt (nfl (kG K)) (j + 1) (n - (j + 1)))) c_14 hn) hP hK hD hS (Nat.le_of_ble_eq_true rfl) (Nat.le_of_ble_eq_true rfl) (rfl) dX2_sorted_59
            · have hp : nfl (kG K) (j + i) = true := by unfold nfl fl; rw [decide_eq_false (show ¬ kG K (j + i) < kG K (j + i - 1) from fun q => c_49 (Int32.lt_iff_toInt_lt.mpr q))]; rfl
              rw [cnt_t hp (by omega), show n - (j + i) - 1 = n - (j + i + 1) by omega] at h3
              refine lv_iinc (v := nI (i + 1)) (lv' := [(2, .int (nI (i + 1))), (0, .ref m0), (1, .int (nI j))]) hx hb dX2_sorted_52 hl (k := 0) rfl (nI_add i 1) (by decide) rfl (fun ls hl => ?_)
              refine lv_goto (tgt := 21) hx hb dX2_sorted_55 (by decide) ?_
              exact ih_u (i + 1) (by omega) (by omega) (by rw [show j + (i + 1) = j + i + 1 by omega]; omega) (by omega) _ _ _ hP hD hS (lv_sub hl [0, 1, 2] rfl)
      exact L_u (_ + 1) 1 (by omega) (by omega) rfl (Nat.lt_succ_self _) _ _ _ hP hD hS (lv_sub hl [0, 1, 2] rfl)
    · have hans : nI 0 = atV (fun j => nI (1 + cnt (nfl (kG K)) (j + 1) (n - (j + 1)))) (nI j) n := atV_out hn (by rintro ⟨j2, hj2, e9⟩; have := (nI_eq hj (by omega)).mp e9; omega)
      refine lv_iconst (v := nI 0) hx hb dX2_sorted_17 (by decide) ?_
      exact hret () _ _ _ _ _ _ _ (hans) hP hK hD hS (Nat.le_of_ble_eq_true rfl) (Nat.le_of_ble_eq_true rfl) (rfl) dX2_sorted_18

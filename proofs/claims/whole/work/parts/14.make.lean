section RWA
variable {p : Program} {l : Launch} {e : Env} {R : Room} {s : State} {m : MethodId} {args : Array Value} {below : List Frame} {meth : Method} {c : Code} {H : Heap} {locs : List Loc} {cells slots : Nat} {Q : State → Prop}
variable {cc : ByteArray} {pc : Nat} {ls : Array Slot} {rest : List Value} {D : va_G} {cl : List vw_C} {A : Nat → Prop} {tys : List (ClassId × FieldType)} {ws : va_W} {H0 : Heap}
theorem xr_newaI (hexec : p.tables.exec = Jvm.exec) (hb : c.code = cc) (harr : (Cond.arrayClass .int).before args s = true) (hK : va_K D cl tys s) (hP : va_P D cl ws H) (hD : va_D A ws) (hS : va_S A H0 H locs) (hA : ∀ q, H0.size ≤ q → A q) (t0 : Nat) {cA : ClassId} (ht : tys[t0]? = some (cA, .int)) {N : Nat} (hN : N < 2 ^ 20) (hcells : cells + 1 ≤ R.cells) (hslots : slots + N ≤ R.slots) (hdg : decode cc pc = .ok (.newarray .int, 2))
    (kk : ∀ (q : Nat) (H1 : Heap), va_P D cl (ws ++ [(q, .inl (cA, N, .inl (fun _ => 0)))]) H1 → va_D A (ws ++ [(q, .inl (cA, N, .inl (fun _ => 0)))]) → va_S A H0 H1 locs → W p l e R s m args below meth c H1 locs (cells + 1) (slots + N) Q (F0 m (pc + 2) ls (.ref q :: rest))) : W p l e R s m args below meth c H locs cells slots Q (F0 m pc ls (.int (nI N) :: rest)) := by
  refine va_newa (atype := .int) (ty := .int) (N' := N) (a0 := (N, .inl (fun _ => 0))) hexec hb harr rfl hK hP hD hS hA (fun _ => rfl) (nI_pos (by omega)) (nI_clamp (by omega)) (show N * 4 ≤ 536870912 by omega) hcells hslots hdg (fun q cA2 H1 hK2 h1 h2 h3 => ?_)
  have e1 : s.vm.findClass ("[" ++ FieldType.int.toString) = some cA2 := (hK2.2 tys.length (cA2, .int) (by simp)).2
  have e2 : s.vm.findClass ("[" ++ FieldType.int.toString) = some cA := (hK.2 t0 (cA, .int) ht).2
  have e3 : cA2 = cA := Option.some.inj (e1.symm.trans e2)
  subst e3
  exact kk q H1 h1 h2 h3
theorem xr_newaN (hexec : p.tables.exec = Jvm.exec) (hb : c.code = cc) (harr : (Cond.arrayClass .int).before args s = true) (hK : va_K D cl tys s) (hP : va_P D cl ws H) (hD : va_D A ws) (hS : va_S A H0 H locs) (hA : ∀ q, H0.size ≤ q → A q) (t0 : Nat) {cA : ClassId} (ht : tys[t0]? = some (cA, .int)) {N : Nat} (hN : N < 2 ^ 20) (hcells : cells + 1 ≤ R.cells) (hslots : slots + N ≤ R.slots) (hdg : decode cc pc = .ok (.newarray .int, 2))
    (kk : ∀ (q : Nat) (H1 : Heap), va_P D cl (ws ++ [(q, .inl (cA, N, .inl (fun j => nI ((fun _ => 0) j))))]) H1 → va_D A (ws ++ [(q, .inl (cA, N, .inl (fun j => nI ((fun _ => 0) j))))]) → va_S A H0 H1 locs → W p l e R s m args below meth c H1 locs (cells + 1) (slots + N) Q (F0 m (pc + 2) ls (.ref q :: rest))) : W p l e R s m args below meth c H locs cells slots Q (F0 m pc ls (.int (nI N) :: rest)) := by
  have e : (fun _ : Nat => (0 : Int32)) = fun j => nI ((fun _ => 0) j) := by funext j; exact nI_0.symm
  refine xr_newaI hexec hb harr hK hP hD hS hA t0 ht hN hcells hslots hdg (fun q H1 h1 h2 h3 => ?_)
  rw [e] at h1 h2
  exact kk q H1 h1 h2 h3
theorem xr_newaL (hexec : p.tables.exec = Jvm.exec) (hb : c.code = cc) (harr : (Cond.arrayClass .long).before args s = true) (hK : va_K D cl tys s) (hP : va_P D cl ws H) (hD : va_D A ws) (hS : va_S A H0 H locs) (hA : ∀ q, H0.size ≤ q → A q) (t0 : Nat) {cA : ClassId} (ht : tys[t0]? = some (cA, .long)) {N : Nat} (hN : N < 2 ^ 20) (hcells : cells + 1 ≤ R.cells) (hslots : slots + N ≤ R.slots) (hdg : decode cc pc = .ok (.newarray .long, 2))
    (kk : ∀ (q : Nat) (H1 : Heap), va_P D cl (ws ++ [(q, .inl (cA, N, .inr (.inl (fun _ => 0))))]) H1 → va_D A (ws ++ [(q, .inl (cA, N, .inr (.inl (fun _ => 0))))]) → va_S A H0 H1 locs → W p l e R s m args below meth c H1 locs (cells + 1) (slots + N) Q (F0 m (pc + 2) ls (.ref q :: rest))) : W p l e R s m args below meth c H locs cells slots Q (F0 m pc ls (.int (nI N) :: rest)) := by
  refine va_newa (atype := .long) (ty := .long) (N' := N) (a0 := (N, .inr (.inl (fun _ => 0)))) hexec hb harr rfl hK hP hD hS hA (fun _ => rfl) (nI_pos (by omega)) (nI_clamp (by omega)) (show N * 8 ≤ 536870912 by omega) hcells hslots hdg (fun q cA2 H1 hK2 h1 h2 h3 => ?_)
  have e1 : s.vm.findClass ("[" ++ FieldType.long.toString) = some cA2 := (hK2.2 tys.length (cA2, .long) (by simp)).2
  have e2 : s.vm.findClass ("[" ++ FieldType.long.toString) = some cA := (hK.2 t0 (cA, .long) ht).2
  have e3 : cA2 = cA := Option.some.inj (e1.symm.trans e2)
  subst e3
  exact kk q H1 h1 h2 h3
end RWA
/-- CAP -/
def cpN (x : Int32) : Nat := max 1 (min 4096 x.toNatClampNeg)
theorem cpN_in (x : Int32) : 1 ≤ cpN x ∧ cpN x ≤ 4096 := by unfold cpN; omega
theorem cp_neg {x : Int32} (h : x < nI 1) : nI 1 = nI (cpN x) := by
  have h1 := Int32.lt_iff_toInt_lt.mp h
  rw [nI_toInt (by decide)] at h1
  have hc : x.toNatClampNeg = 0 := by show x.toInt.toNat = 0; omega
  unfold cpN
  rw [hc]
  rfl
theorem cp_nat {j : Nat} (hj : j < 2 ^ 31) : cpN (nI j) = max 1 (min 4096 j) := by
  unfold cpN
  rw [nI_clamp hj]
theorem cp_eq (x : Int32) : (if nI 1 < (if x < nI 4096 then x else nI 4096) then (if x < nI 4096 then x else nI 4096) else nI 1) = nI (cpN x) := by
  by_cases hx : x < 0
  · have h0 : x.toInt < 0 := (neg_int x).mp hx
    have h1 : x < nI 4096 := Int32.lt_iff_toInt_lt.mpr (by rw [nI_toInt (by decide)]; omega)
    rw [if_pos h1, if_neg (fun q => by
      have := Int32.lt_iff_toInt_lt.mp q
      rw [nI_toInt (by decide)] at this
      omega)]
    exact cp_neg (Int32.lt_iff_toInt_lt.mpr (by rw [nI_toInt (by decide)]; omega))
  · obtain ⟨j, hj, rfl⟩ := nI_of hx
    rw [cp_nat hj]
    by_cases h1 : j < 4096
    · rw [if_pos ((nI_ltI hj (by decide)).mpr h1)]
      by_cases h2 : 1 < j
      · rw [if_pos ((nI_ltI (by decide) hj).mpr h2)]
        congr 1
        omega
      · rw [if_neg (fun q => h2 ((nI_ltI (by decide) hj).mp q))]
        congr 1
        omega
    · rw [if_neg (fun q => h1 ((nI_ltI hj (by decide)).mp q)), if_pos ((nI_ltI (by decide) (by decide)).mpr (by decide))]
      congr 1
      omega
abbrev rmX0_init : Room := { frames := 1, cells := 2, slots := 514, locals := 12 }
set_option maxRecDepth 100000 in
set_option maxHeartbeats 4000000 in
theorem c_X0_init (l : Launch) (dC : Nat → ClassId) (dI : Nat → Nat → Nat) (cJ cI : ClassId) (oL M : Nat) (hM : M ≤ 257) : CV l yX0_init wsX0_init rmX0_init [.ref oL, .int (nI M)] (dC, dI) vwCl (KT cJ cI) [(oL, .inr (0, [.null, .null, .int (nI 0), .int (nI 0)]))] (S := Nat × Nat) (fun _ => True) (fun _ => KT cJ cI) (fun u => [(oL, .inr (0, [.ref u.1, .ref u.2, .int (nI 0), .int (nI 0)])), (u.1, .inl (cI, M, .inl (fun j => nI ((fun _ => 0) j)))), (u.2, .inl (cI, M, .inl (fun j => nI ((fun _ => 0) j))))]) := by
  refine CV.mk (by decide) rfl (Nat.le_of_ble_eq_true rfl) ?_
  intro p e s m args below meth c A Q ls hx hb hml hown hts hin hA hS hP hD hK hN hl hret
  have hl : lv_has ls 2 [(0, .ref oL), (1, .int (nI M))] := hl
  have hin_0 : ∀ w ∈ u_ws RX0 TX0 4, w ∈ wsX0_init := by decide +kernel
  have k_1 := hts (Cond.methodLink RX0 1 objectInit) (by decide +kernel)
  have k_2 := hts (Cond.instanceMethod objectInit) (by decide +kernel)
  have k_3 := hts (Cond.arrayClass .int) (by decide +kernel)
  have k_4 := hts (Cond.fieldLink RX0 7 "PairSorter$Pile" "starts" "[I") (by decide +kernel)
  have k_5 := hts (Cond.fieldLink RX0 13 "PairSorter$Pile" "lengths" "[I") (by decide +kernel)
  refine lv_aload_n hx hb dX0_init_0 rfl (lv_at hl 0 rfl) ?_
  refine W.objInit hx hb hown k_1 k_2 (hts _ (List.mem_of_getElem? (i := 3) rfl)) rfl (by rw [hml]; exact hl.1) rfl dX0_init_1 (Nat.le_of_ble_eq_true rfl) (Nat.le_of_ble_eq_true rfl) ?_
  refine W.eq (g2 := F0 m 4 ls []) rfl ?_
  refine lv_aload_n hx hb dX0_init_4 rfl (lv_at hl 0 rfl) ?_
  refine lv_iload_n hx hb dX0_init_5 rfl (lv_at hl 1 rfl) ?_
  refine xr_newaN hx hb k_3 hK hP hD hS hA 1 rfl (by omega) (show 0 + 1 ≤ 2 by omega) (show 0 + M ≤ 514 by omega) dX0_init_6 (fun q_6 H hP hD hS => ?_)
  have hP : va_P (dC, dI) vwCl [(oL, .inr (0, [.null, .null, .int (nI 0), .int (nI 0)])), (q_6, .inl (cI, M, .inl (fun j => nI ((fun _ => 0) j))))] H := hP
  have hD : va_D A [(oL, .inr (0, [.null, .null, .int (nI 0), .int (nI 0)])), (q_6, .inl (cI, M, .inl (fun j => nI ((fun _ => 0) j))))] := hD
  refine W.widen (k := 1) (n := 257) (by omega) (by omega) ?_
  refine va_putF (D := (dC, dI)) (ci := 0) (v := .ref q_6) (ty := (.array .int)) (C := RX0) (T := TX0) (N := 4) hx hb hts hin_0 tyX0 tyX0_ok nmX0 hown hK hP hD hS 0 rfl rfl 0 (by decide) k_4 (fun _ h9 => h9) rfl hin rfl (by decide +kernel) rfl rfl (Nat.le_of_ble_eq_true rfl) dX0_init_8 (fun H locs hP hD hS => ?_)
  have hP : va_P (dC, dI) vwCl [(oL, .inr (0, [.ref q_6, .null, .int (nI 0), .int (nI 0)])), (q_6, .inl (cI, M, .inl (fun j => nI ((fun _ => 0) j))))] H := hP
  have hD : va_D A [(oL, .inr (0, [.ref q_6, .null, .int (nI 0), .int (nI 0)])), (q_6, .inl (cI, M, .inl (fun j => nI ((fun _ => 0) j))))] := hD
  refine lv_aload_n hx hb dX0_init_11 rfl (lv_at hl 0 rfl) ?_
  refine lv_iload_n hx hb dX0_init_12 rfl (lv_at hl 1 rfl) ?_
  refine xr_newaN hx hb k_3 hK hP hD hS hA 1 rfl (by omega) (show 1 + 1 ≤ 2 by omega) (show 257 + M ≤ 514 by omega) dX0_init_13 (fun q_13 H hP hD hS => ?_)
  have hP : va_P (dC, dI) vwCl [(oL, .inr (0, [.ref q_6, .null, .int (nI 0), .int (nI 0)])), (q_6, .inl (cI, M, .inl (fun j => nI ((fun _ => 0) j)))), (q_13, .inl (cI, M, .inl (fun j => nI ((fun _ => 0) j))))] H := hP
  have hD : va_D A [(oL, .inr (0, [.ref q_6, .null, .int (nI 0), .int (nI 0)])), (q_6, .inl (cI, M, .inl (fun j => nI ((fun _ => 0) j)))), (q_13, .inl (cI, M, .inl (fun j => nI ((fun _ => 0) j))))] := hD
  refine W.widen (k := 2) (n := 514) (by omega) (by omega) ?_
  refine va_putF (D := (dC, dI)) (ci := 0) (v := .ref q_13) (ty := (.array .int)) (C := RX0) (T := TX0) (N := 4) hx hb hts hin_0 tyX0 tyX0_ok nmX0 hown hK hP hD hS 0 rfl rfl 1 (by decide) k_5 (fun _ h9 => h9) rfl hin rfl (by decide +kernel) rfl rfl (Nat.le_of_ble_eq_true rfl) dX0_init_15 (fun H locs hP hD hS => ?_)
  have hP : va_P (dC, dI) vwCl [(oL, .inr (0, [.ref q_6, .ref q_13, .int (nI 0), .int (nI 0)])), (q_6, .inl (cI, M, .inl (fun j => nI ((fun _ => 0) j)))), (q_13, .inl (cI, M, .inl (fun j => nI ((fun _ => 0) j))))] H := hP
  have hD : va_D A [(oL, .inr (0, [.ref q_6, .ref q_13, .int (nI 0), .int (nI 0)])), (q_6, .inl (cI, M, .inl (fun j => nI ((fun _ => 0) j)))), (q_13, .inl (cI, M, .inl (fun j => nI ((fun _ => 0) j))))] := hD
  exact hret (q_6, q_13) _ _ _ _ _ _ (trivial) hP hK hD hS (Nat.le_of_ble_eq_true rfl) (Nat.le_of_ble_eq_true rfl) dX0_init_18
abbrev rmX1_init : Room := { frames := 2, cells := 6, slots := 6919, locals := 33 }
set_option maxRecDepth 100000 in
set_option maxHeartbeats 4000000 in
theorem c_X1_init (l : Launch) (dC : Nat → ClassId) (dI : Nat → Nat → Nat) (cJ cI : ClassId) (o : Nat) (x : Int32)  : CV l yX1_init wsX1_init rmX1_init [.ref o, .int x] (dC, dI) vwCl (KT cJ cI) [(o, .inr (1, [.null, .int (nI 0), .null, .null, .null, .int (nI 0), .int (nI 0), .long (lN 0), .int (nI 0)]))] (S := Nat × Nat × Nat × Nat × Nat × Nat) (fun _ => True) (fun _ => KT cJ cI) (fun (P, A, L, R, S, N) => [(o, .inr (1, [.ref P, .int (nI 0), .ref A, .ref L, .ref R, .int (nI 0), .int (nI 0), .long (lN 0), .int (nI 0)])), (P, .inl (cJ, (cpN x), .inr (.inl (fun _ => 0)))), (A, .inl (cJ, (cpN x / 2), .inr (.inl (fun _ => 0)))), (L, .inr (0, [.ref S, .ref N, .int (nI 0), .int (nI 0)])), (S, .inl (cI, (cpN x / 16 + 1), .inl (fun j => nI ((fun _ => 0) j)))), (N, .inl (cI, (cpN x / 16 + 1), .inl (fun j => nI ((fun _ => 0) j)))), (R, .inl (cI, (cpN x / 16 + 1), .inl (fun j => nI ((fun _ => 0) j))))]) := by
  refine CV.mk (by decide) rfl (Nat.le_of_ble_eq_true rfl) ?_
  intro p e s m args below meth c A Q ls hx hb hml hown hts hin hA hS hP hD hK hN hl hret
  have hl : lv_has ls 4 [(0, .ref o), (1, .int x)] := hl
  have hin_0 : ∀ w ∈ u_ws RX0 TX0 4, w ∈ wsX1_init := by decide +kernel
  have hin_1 : ∀ w ∈ u_ws RX1 TX1 9, w ∈ wsX1_init := by decide +kernel
  have k_1 := hts (Cond.methodLink RX1 1 objectInit) (by decide +kernel)
  have k_2 := hts (Cond.instanceMethod objectInit) (by decide +kernel)
  have k_3 := hts (Cond.methodLink RX1 9 Lib.Math.min.name) (by decide +kernel)
  have k_4 := hts (Cond.static Lib.Math.min.name) (by decide +kernel)
  have k_5 := hts (Cond.initialized "java/lang/Math") (by decide +kernel)
  have k_6 := hts (Cond.code Lib.Math.min.name Lib.Math.min.code 2 (some .int)) (by decide +kernel)
  have k_7 := hts (Cond.methodLink RX1 15 Lib.Math.max.name) (by decide +kernel)
  have k_8 := hts (Cond.static Lib.Math.max.name) (by decide +kernel)
  have k_9 := hts (Cond.code Lib.Math.max.name Lib.Math.max.code 2 (some .int)) (by decide +kernel)
  have k_10 := hts (Cond.arrayClass .long) (by decide +kernel)
  have k_11 := hts (Cond.fieldLink RX1 18 "PairSorter" "pairs" "[J") (by decide +kernel)
  have k_12 := hts (Cond.fieldLink RX1 22 "PairSorter" "aside" "[J") (by decide +kernel)
  have k_13 := hts (Cond.classLink RX1 25 RX0) (by decide +kernel)
  have k_14 := hts (Cond.instantiable RX0 4) (by decide +kernel)
  have k_15 := hts (Cond.initialized RX0) (by decide +kernel)
  have k_16 := hts (Cond.fieldLink RX1 30 "PairSorter" "pile" "LPairSorter$Pile;") (by decide +kernel)
  have k_17 := hts (Cond.arrayClass .int) (by decide +kernel)
  have k_18 := hts (Cond.fieldLink RX1 34 "PairSorter" "runLengths" "[I") (by decide +kernel)
  have hcp := cpN_in x
  refine lv_aload_n hx hb dX1_init_0 rfl (lv_at hl 0 rfl) ?_
  refine W.objInit hx hb hown k_1 k_2 (hts _ (List.mem_of_getElem? (i := 3) rfl)) rfl (by rw [hml]; exact hl.1) rfl dX1_init_1 (Nat.le_of_ble_eq_true rfl) (Nat.le_of_ble_eq_true rfl) ?_
  refine W.eq (g2 := F0 m 4 ls []) rfl ?_
  refine lv_iconst (v := nI 1) hx hb dX1_init_4 (by decide) ?_
  refine lv_sipush (v := nI 4096) hx hb dX1_init_5 (by decide) ?_
  refine lv_iload_n hx hb dX1_init_8 rfl (lv_at hl 1 rfl) ?_
  refine va_mmin hx hb (hml.trans hl.1.symm) hown k_3 k_4 k_5 k_6 (Nat.le_of_ble_eq_true rfl) (Nat.le_of_ble_eq_true rfl) (Nat.le_of_ble_eq_true rfl) (Nat.le_of_ble_eq_true rfl) dX1_init_9 ?_
  refine va_mmax hx hb (hml.trans hl.1.symm) hown k_7 k_8 k_5 k_9 (Nat.le_of_ble_eq_true rfl) (Nat.le_of_ble_eq_true rfl) (Nat.le_of_ble_eq_true rfl) (Nat.le_of_ble_eq_true rfl) dX1_init_12 ?_
  refine xr_top (y := nI (cpN x)) (cp_eq x) ?_
  refine lv_istore_n (lv' := [(2, .int (nI (cpN x))), (0, .ref o), (1, .int x)]) hx hb dX1_init_15 rfl hl (by decide) rfl (fun ls hl => ?_)
  refine lv_iload_n hx hb dX1_init_16 rfl (lv_at hl 0 rfl) ?_
  refine lv_bipush (v := nI 16) hx hb dX1_init_17 (by decide) ?_
  refine xr_idiv hx hb dX1_init_19 (by omega) (by omega) (by omega) ?_
  refine lv_iconst (v := nI 1) hx hb dX1_init_20 (by decide) ?_
  refine xr_iadd hx hb dX1_init_21 ?_
  refine lv_istore_n (lv' := [(3, .int (nI ((cpN x) / 16 + 1))), (2, .int (nI (cpN x))), (0, .ref o), (1, .int x)]) hx hb dX1_init_22 rfl hl (by decide) rfl (fun ls hl => ?_)
  refine lv_aload_n hx hb dX1_init_23 rfl (lv_at hl 2 rfl) ?_
  refine lv_iload_n hx hb dX1_init_24 rfl (lv_at hl 1 rfl) ?_
  refine xr_newaL hx hb k_10 hK hP hD hS hA 0 rfl (by omega) (show 0 + 1 ≤ 6 by omega) (show 0 + (cpN x) ≤ 6919 by omega) dX1_init_25 (fun q_25 H hP hD hS => ?_)
  have hP : va_P (dC, dI) vwCl [(o, .inr (1, [.null, .int (nI 0), .null, .null, .null, .int (nI 0), .int (nI 0), .long (lN 0), .int (nI 0)])), (q_25, .inl (cJ, (cpN x), .inr (.inl (fun _ => 0))))] H := hP
  have hD : va_D A [(o, .inr (1, [.null, .int (nI 0), .null, .null, .null, .int (nI 0), .int (nI 0), .long (lN 0), .int (nI 0)])), (q_25, .inl (cJ, (cpN x), .inr (.inl (fun _ => 0))))] := hD
  refine W.widen (k := 1) (n := 4096) (by omega) (by omega) ?_
  refine va_putF (D := (dC, dI)) (ci := 1) (v := .ref q_25) (ty := (.array .long)) (C := RX1) (T := TX1) (N := 9) hx hb hts hin_1 tyX1 tyX1_ok nmX1 hown hK hP hD hS 0 rfl rfl 0 (by decide) k_11 (fun _ h9 => h9) rfl hin rfl (by decide +kernel) rfl rfl (Nat.le_of_ble_eq_true rfl) dX1_init_27 (fun H locs hP hD hS => ?_)
  have hP : va_P (dC, dI) vwCl [(o, .inr (1, [.ref q_25, .int (nI 0), .null, .null, .null, .int (nI 0), .int (nI 0), .long (lN 0), .int (nI 0)])), (q_25, .inl (cJ, (cpN x), .inr (.inl (fun _ => 0))))] H := hP
  have hD : va_D A [(o, .inr (1, [.ref q_25, .int (nI 0), .null, .null, .null, .int (nI 0), .int (nI 0), .long (lN 0), .int (nI 0)])), (q_25, .inl (cJ, (cpN x), .inr (.inl (fun _ => 0))))] := hD
  refine lv_aload_n hx hb dX1_init_30 rfl (lv_at hl 2 rfl) ?_
  refine lv_iload_n hx hb dX1_init_31 rfl (lv_at hl 1 rfl) ?_
  refine lv_iconst (v := nI 2) hx hb dX1_init_32 (by decide) ?_
  refine xr_idiv hx hb dX1_init_33 (by omega) (by omega) (by omega) ?_
  refine xr_newaL hx hb k_10 hK hP hD hS hA 0 rfl (by omega) (show 1 + 1 ≤ 6 by omega) (show 4096 + ((cpN x) / 2) ≤ 6919 by omega) dX1_init_34 (fun q_34 H hP hD hS => ?_)
  have hP : va_P (dC, dI) vwCl [(o, .inr (1, [.ref q_25, .int (nI 0), .null, .null, .null, .int (nI 0), .int (nI 0), .long (lN 0), .int (nI 0)])), (q_25, .inl (cJ, (cpN x), .inr (.inl (fun _ => 0)))), (q_34, .inl (cJ, ((cpN x) / 2), .inr (.inl (fun _ => 0))))] H := hP
  have hD : va_D A [(o, .inr (1, [.ref q_25, .int (nI 0), .null, .null, .null, .int (nI 0), .int (nI 0), .long (lN 0), .int (nI 0)])), (q_25, .inl (cJ, (cpN x), .inr (.inl (fun _ => 0)))), (q_34, .inl (cJ, ((cpN x) / 2), .inr (.inl (fun _ => 0))))] := hD
  refine W.widen (k := 2) (n := 6144) (by omega) (by omega) ?_
  refine va_putF (D := (dC, dI)) (ci := 1) (v := .ref q_34) (ty := (.array .long)) (C := RX1) (T := TX1) (N := 9) hx hb hts hin_1 tyX1 tyX1_ok nmX1 hown hK hP hD hS 0 rfl rfl 2 (by decide) k_12 (fun _ h9 => h9) rfl hin rfl (by decide +kernel) rfl rfl (Nat.le_of_ble_eq_true rfl) dX1_init_36 (fun H locs hP hD hS => ?_)
  have hP : va_P (dC, dI) vwCl [(o, .inr (1, [.ref q_25, .int (nI 0), .ref q_34, .null, .null, .int (nI 0), .int (nI 0), .long (lN 0), .int (nI 0)])), (q_25, .inl (cJ, (cpN x), .inr (.inl (fun _ => 0)))), (q_34, .inl (cJ, ((cpN x) / 2), .inr (.inl (fun _ => 0))))] H := hP
  have hD : va_D A [(o, .inr (1, [.ref q_25, .int (nI 0), .ref q_34, .null, .null, .int (nI 0), .int (nI 0), .long (lN 0), .int (nI 0)])), (q_25, .inl (cJ, (cpN x), .inr (.inl (fun _ => 0)))), (q_34, .inl (cJ, ((cpN x) / 2), .inr (.inl (fun _ => 0))))] := hD
  refine lv_aload_n hx hb dX1_init_39 rfl (lv_at hl 2 rfl) ?_
  refine va_new (ci := 0) (fs := [.null, .null, .int (nI 0), .int (nI 0)]) (C := RX0) (T := TX0) (N := 4) hx hb hts hin_0 tyX0 tyX0_ok hown k_13 k_14 k_15 hK hP hD hS hA rfl (fun j hj => by rcases (show j = 0 ∨ j = 1 ∨ j = 2 ∨ j = 3 by omega) with rfl | rfl | rfl | rfl <;> rfl) (show 2 + 1 ≤ 6 by omega) (show 6144 + 4 ≤ 6919 by omega) dX1_init_40 (fun q_40 H hP hD hS => ?_)
  have hP : va_P (dC, dI) vwCl [(o, .inr (1, [.ref q_25, .int (nI 0), .ref q_34, .null, .null, .int (nI 0), .int (nI 0), .long (lN 0), .int (nI 0)])), (q_25, .inl (cJ, (cpN x), .inr (.inl (fun _ => 0)))), (q_34, .inl (cJ, ((cpN x) / 2), .inr (.inl (fun _ => 0)))), (q_40, .inr (0, [.null, .null, .int (nI 0), .int (nI 0)]))] H := hP
  have hD : va_D A [(o, .inr (1, [.ref q_25, .int (nI 0), .ref q_34, .null, .null, .int (nI 0), .int (nI 0), .long (lN 0), .int (nI 0)])), (q_25, .inl (cJ, (cpN x), .inr (.inl (fun _ => 0)))), (q_34, .inl (cJ, ((cpN x) / 2), .inr (.inl (fun _ => 0)))), (q_40, .inr (0, [.null, .null, .int (nI 0), .int (nI 0)]))] := hD
  refine W.widen (k := 3) (n := 6148) (by omega) (by omega) ?_
  refine lv_dup hx hb dX1_init_43 rfl ?_
  refine lv_iload_n hx hb dX1_init_44 rfl (lv_at hl 0 rfl) ?_
  refine call_IN_V (As := [.int (nI ((cpN x) / 16 + 1))]) (rest := [.ref q_40, .ref o]) (wr := [(o, .inr (1, [.ref q_25, .int (nI 0), .ref q_34, .null, .null, .int (nI 0), .int (nI 0), .long (lN 0), .int (nI 0)])), (q_25, .inl (cJ, (cpN x), .inr (.inl (fun _ => 0)))), (q_34, .inl (cJ, ((cpN x) / 2), .inr (.inl (fun _ => 0))))]) ⟨hx, hb, hml, hown, hts⟩ (c_X0_init l dC dI cJ cI q_40 (cpN x / 16 + 1) (by omega)) (⟨va_cnB (host := "PairSorter") 1 hts gX1_init_X0_init_n27 rfl rfl rfl (hN _ (by decide +kernel)) (hts (.initialized RX0) (by decide +kernel)) (by decide +kernel) ⟨Nat.le_of_ble_eq_true rfl, Nat.le_of_ble_eq_true rfl⟩, rfl, hts (.instanceMethod yX0_init) (by decide +kernel)⟩) hP hD hK hN hS hA [3] [0, 1, 2] [0, 1] rfl rfl rfl (by decide) (by decide) (by decide) rfl hl.1 rfl (Nat.le_of_ble_eq_true rfl) dX1_init_45 (Nat.le_of_ble_eq_true rfl) (Nat.le_of_ble_eq_true rfl) (fun u_45 H locs hw_45 hP hD hK1 hS => ?_)
  refine W.widen (k := 5) (n := 6662) (Nat.le_of_ble_eq_true rfl) (Nat.le_of_ble_eq_true rfl) ?_
  obtain ⟨oS, oN⟩ := u_45
  have hP : va_P (dC, dI) vwCl [(o, .inr (1, [.ref q_25, .int (nI 0), .ref q_34, .null, .null, .int (nI 0), .int (nI 0), .long (lN 0), .int (nI 0)])), (q_25, .inl (cJ, (cpN x), .inr (.inl (fun _ => 0)))), (q_34, .inl (cJ, ((cpN x) / 2), .inr (.inl (fun _ => 0)))), (q_40, .inr (0, [.ref oS, .ref oN, .int (nI 0), .int (nI 0)])), (oS, .inl (cI, (cpN x / 16 + 1), .inl (fun j => nI ((fun _ => 0) j)))), (oN, .inl (cI, (cpN x / 16 + 1), .inl (fun j => nI ((fun _ => 0) j))))] H := ct_Psub hP [0, 1, 2, 3, 4, 5] rfl
  have hD : va_D A [(o, .inr (1, [.ref q_25, .int (nI 0), .ref q_34, .null, .null, .int (nI 0), .int (nI 0), .long (lN 0), .int (nI 0)])), (q_25, .inl (cJ, (cpN x), .inr (.inl (fun _ => 0)))), (q_34, .inl (cJ, ((cpN x) / 2), .inr (.inl (fun _ => 0)))), (q_40, .inr (0, [.ref oS, .ref oN, .int (nI 0), .int (nI 0)])), (oS, .inl (cI, (cpN x / 16 + 1), .inl (fun j => nI ((fun _ => 0) j)))), (oN, .inl (cI, (cpN x / 16 + 1), .inl (fun j => nI ((fun _ => 0) j))))] := hD.sub [0, 1, 2, 3, 4, 5] (by decide) rfl
  refine va_putF (D := (dC, dI)) (ci := 1) (v := .ref q_40) (ty := (.object "PairSorter$Pile")) (C := RX1) (T := TX1) (N := 9) hx hb hts hin_1 tyX1 tyX1_ok nmX1 hown hK hP hD hS 0 rfl rfl 3 (by decide) k_16 (fun _ h9 => h9) rfl hin rfl (by decide +kernel) rfl rfl (Nat.le_of_ble_eq_true rfl) dX1_init_48 (fun H locs hP hD hS => ?_)
  have hP : va_P (dC, dI) vwCl [(o, .inr (1, [.ref q_25, .int (nI 0), .ref q_34, .ref q_40, .null, .int (nI 0), .int (nI 0), .long (lN 0), .int (nI 0)])), (q_25, .inl (cJ, (cpN x), .inr (.inl (fun _ => 0)))), (q_34, .inl (cJ, ((cpN x) / 2), .inr (.inl (fun _ => 0)))), (q_40, .inr (0, [.ref oS, .ref oN, .int (nI 0), .int (nI 0)])), (oS, .inl (cI, (cpN x / 16 + 1), .inl (fun j => nI ((fun _ => 0) j)))), (oN, .inl (cI, (cpN x / 16 + 1), .inl (fun j => nI ((fun _ => 0) j))))] H := hP
  have hD : va_D A [(o, .inr (1, [.ref q_25, .int (nI 0), .ref q_34, .ref q_40, .null, .int (nI 0), .int (nI 0), .long (lN 0), .int (nI 0)])), (q_25, .inl (cJ, (cpN x), .inr (.inl (fun _ => 0)))), (q_34, .inl (cJ, ((cpN x) / 2), .inr (.inl (fun _ => 0)))), (q_40, .inr (0, [.ref oS, .ref oN, .int (nI 0), .int (nI 0)])), (oS, .inl (cI, (cpN x / 16 + 1), .inl (fun j => nI ((fun _ => 0) j)))), (oN, .inl (cI, (cpN x / 16 + 1), .inl (fun j => nI ((fun _ => 0) j))))] := hD
  refine lv_aload_n hx hb dX1_init_51 rfl (lv_at hl 2 rfl) ?_
  refine lv_iload_n hx hb dX1_init_52 rfl (lv_at hl 0 rfl) ?_
  refine xr_newaN hx hb k_17 hK hP hD hS hA 1 rfl (by omega) (show 5 + 1 ≤ 6 by omega) (show 6662 + ((cpN x) / 16 + 1) ≤ 6919 by omega) dX1_init_53 (fun q_53 H hP hD hS => ?_)
  have hP : va_P (dC, dI) vwCl [(o, .inr (1, [.ref q_25, .int (nI 0), .ref q_34, .ref q_40, .null, .int (nI 0), .int (nI 0), .long (lN 0), .int (nI 0)])), (q_25, .inl (cJ, (cpN x), .inr (.inl (fun _ => 0)))), (q_34, .inl (cJ, ((cpN x) / 2), .inr (.inl (fun _ => 0)))), (q_40, .inr (0, [.ref oS, .ref oN, .int (nI 0), .int (nI 0)])), (oS, .inl (cI, (cpN x / 16 + 1), .inl (fun j => nI ((fun _ => 0) j)))), (oN, .inl (cI, (cpN x / 16 + 1), .inl (fun j => nI ((fun _ => 0) j)))), (q_53, .inl (cI, ((cpN x) / 16 + 1), .inl (fun j => nI ((fun _ => 0) j))))] H := hP
  have hD : va_D A [(o, .inr (1, [.ref q_25, .int (nI 0), .ref q_34, .ref q_40, .null, .int (nI 0), .int (nI 0), .long (lN 0), .int (nI 0)])), (q_25, .inl (cJ, (cpN x), .inr (.inl (fun _ => 0)))), (q_34, .inl (cJ, ((cpN x) / 2), .inr (.inl (fun _ => 0)))), (q_40, .inr (0, [.ref oS, .ref oN, .int (nI 0), .int (nI 0)])), (oS, .inl (cI, (cpN x / 16 + 1), .inl (fun j => nI ((fun _ => 0) j)))), (oN, .inl (cI, (cpN x / 16 + 1), .inl (fun j => nI ((fun _ => 0) j)))), (q_53, .inl (cI, ((cpN x) / 16 + 1), .inl (fun j => nI ((fun _ => 0) j))))] := hD
  refine W.widen (k := 6) (n := 6919) (by omega) (by omega) ?_
  refine va_putF (D := (dC, dI)) (ci := 1) (v := .ref q_53) (ty := (.array .int)) (C := RX1) (T := TX1) (N := 9) hx hb hts hin_1 tyX1 tyX1_ok nmX1 hown hK hP hD hS 0 rfl rfl 4 (by decide) k_18 (fun _ h9 => h9) rfl hin rfl (by decide +kernel) rfl rfl (Nat.le_of_ble_eq_true rfl) dX1_init_55 (fun H locs hP hD hS => ?_)
  have hP : va_P (dC, dI) vwCl [(o, .inr (1, [.ref q_25, .int (nI 0), .ref q_34, .ref q_40, .ref q_53, .int (nI 0), .int (nI 0), .long (lN 0), .int (nI 0)])), (q_25, .inl (cJ, (cpN x), .inr (.inl (fun _ => 0)))), (q_34, .inl (cJ, ((cpN x) / 2), .inr (.inl (fun _ => 0)))), (q_40, .inr (0, [.ref oS, .ref oN, .int (nI 0), .int (nI 0)])), (oS, .inl (cI, (cpN x / 16 + 1), .inl (fun j => nI ((fun _ => 0) j)))), (oN, .inl (cI, (cpN x / 16 + 1), .inl (fun j => nI ((fun _ => 0) j)))), (q_53, .inl (cI, ((cpN x) / 16 + 1), .inl (fun j => nI ((fun _ => 0) j))))] H := hP
  have hD : va_D A [(o, .inr (1, [.ref q_25, .int (nI 0), .ref q_34, .ref q_40, .ref q_53, .int (nI 0), .int (nI 0), .long (lN 0), .int (nI 0)])), (q_25, .inl (cJ, (cpN x), .inr (.inl (fun _ => 0)))), (q_34, .inl (cJ, ((cpN x) / 2), .inr (.inl (fun _ => 0)))), (q_40, .inr (0, [.ref oS, .ref oN, .int (nI 0), .int (nI 0)])), (oS, .inl (cI, (cpN x / 16 + 1), .inl (fun j => nI ((fun _ => 0) j)))), (oN, .inl (cI, (cpN x / 16 + 1), .inl (fun j => nI ((fun _ => 0) j)))), (q_53, .inl (cI, ((cpN x) / 16 + 1), .inl (fun j => nI ((fun _ => 0) j))))] := hD
  exact hret (q_25, q_34, q_40, q_53, oS, oN) _ _ _ _ _ _ (trivial) hP hK hD hS (Nat.le_of_ble_eq_true rfl) (Nat.le_of_ble_eq_true rfl) dX1_init_58
abbrev rmX2_init : Room := { frames := 1, cells := 6, slots := 20680, locals := 12 }
set_option maxRecDepth 100000 in
set_option maxHeartbeats 4000000 in
theorem c_X2_init (l : Launch) (dC : Nat → ClassId) (dI : Nat → Nat → Nat) (cJ cI : ClassId) (m0 : Nat) (x : Int32)  : CV l yX2_init wsX2_init rmX2_init [.ref m0, .int x] (dC, dI) vwCl (KT cJ cI) [(m0, .inr (2, [.int (nI 0), .int (nI 0), .null, .null, .null, .null, .int (nI 0), .int (nI 0), .int (nI 0), .null, .int (nI 0), .long (lN 0), .null, .int (nI 0), .int (nI 0)]))] (S := Nat × Nat × Nat × Nat × Nat × Nat) (fun _ => True) (fun _ => KT cJ cI) (fun (a1, a2, a3, a4, a5, a6) => [(m0, .inr (2, [.int (nI 0), .int (nI (cpN x)), .ref a1, .ref a2, .ref a3, .ref a4, .int (nI 0), .int (nI 0), .int (nI 0), .ref a5, .int (nI 0), .long (lN 0), .ref a6, .int (nI 0), .int (nI 0)])), (a1, .inl (cI, 4096, .inl (fun _ => 0))), (a2, .inl (cI, 4096, .inl (fun _ => 0))), (a3, .inl (cI, 4096, .inl (fun _ => 0))), (a4, .inl (cI, 4096, .inl (fun _ => 0))), (a5, .inl (cI, 4096, .inl (fun j => nI ((fun _ => 0) j)))), (a6, .inl (cI, 200, .inl (fun j => nI ((fun _ => 0) j))))]) := by
  refine CV.mk (by decide) rfl (Nat.le_of_ble_eq_true rfl) ?_
  intro p e s m args below meth c A Q ls hx hb hml hown hts hin hA hS hP hD hK hN hl hret
  have hl : lv_has ls 2 [(0, .ref m0), (1, .int x)] := hl
  have hin_2 : ∀ w ∈ u_ws RX2 TX2 15, w ∈ wsX2_init := by decide +kernel
  have k_1 := hts (Cond.methodLink RX2 1 objectInit) (by decide +kernel)
  have k_2 := hts (Cond.instanceMethod objectInit) (by decide +kernel)
  have k_3 := hts (Cond.arrayClass .int) (by decide +kernel)
  have k_4 := hts (Cond.fieldLink RX2 7 "PairSorterModel" "keys" "[I") (by decide +kernel)
  have k_5 := hts (Cond.fieldLink RX2 13 "PairSorterModel" "tags" "[I") (by decide +kernel)
  have k_6 := hts (Cond.fieldLink RX2 16 "PairSorterModel" "otherKeys" "[I") (by decide +kernel)
  have k_7 := hts (Cond.fieldLink RX2 19 "PairSorterModel" "otherTags" "[I") (by decide +kernel)
  have k_8 := hts (Cond.fieldLink RX2 22 "PairSorterModel" "lengths" "[I") (by decide +kernel)
  have k_9 := hts (Cond.fieldLink RX2 25 "PairSorterModel" "pile" "[I") (by decide +kernel)
  have k_10 := hts (Cond.fieldLink RX2 28 "PairSorterModel" "cap" "I") (by decide +kernel)
  refine lv_aload_n hx hb dX2_init_0 rfl (lv_at hl 0 rfl) ?_
  refine W.objInit hx hb hown k_1 k_2 (hts _ (List.mem_of_getElem? (i := 3) rfl)) rfl (by rw [hml]; exact hl.1) rfl dX2_init_1 (Nat.le_of_ble_eq_true rfl) (Nat.le_of_ble_eq_true rfl) ?_
  refine W.eq (g2 := F0 m 4 ls []) rfl ?_
  refine lv_aload_n hx hb dX2_init_4 rfl (lv_at hl 0 rfl) ?_
  refine lv_sipush (v := nI 4096) hx hb dX2_init_5 (by decide) ?_
  refine xr_newaI hx hb k_3 hK hP hD hS hA 1 rfl (by omega) (show 0 + 1 ≤ 6 by omega) (show 0 + 4096 ≤ 20680 by omega) dX2_init_8 (fun q_8 H hP hD hS => ?_)
  have hP : va_P (dC, dI) vwCl [(m0, .inr (2, [.int (nI 0), .int (nI 0), .null, .null, .null, .null, .int (nI 0), .int (nI 0), .int (nI 0), .null, .int (nI 0), .long (lN 0), .null, .int (nI 0), .int (nI 0)])), (q_8, .inl (cI, 4096, .inl (fun _ => 0)))] H := hP
  have hD : va_D A [(m0, .inr (2, [.int (nI 0), .int (nI 0), .null, .null, .null, .null, .int (nI 0), .int (nI 0), .int (nI 0), .null, .int (nI 0), .long (lN 0), .null, .int (nI 0), .int (nI 0)])), (q_8, .inl (cI, 4096, .inl (fun _ => 0)))] := hD
  refine W.widen (k := 1) (n := 4096) (by omega) (by omega) ?_
  refine va_putF (D := (dC, dI)) (ci := 2) (v := .ref q_8) (ty := (.array .int)) (C := RX2) (T := TX2) (N := 15) hx hb hts hin_2 tyX2 tyX2_ok nmX2 hown hK hP hD hS 0 rfl rfl 2 (by decide) k_4 (fun _ h9 => h9) rfl hin rfl (by decide +kernel) rfl rfl (Nat.le_of_ble_eq_true rfl) dX2_init_10 (fun H locs hP hD hS => ?_)
  have hP : va_P (dC, dI) vwCl [(m0, .inr (2, [.int (nI 0), .int (nI 0), .ref q_8, .null, .null, .null, .int (nI 0), .int (nI 0), .int (nI 0), .null, .int (nI 0), .long (lN 0), .null, .int (nI 0), .int (nI 0)])), (q_8, .inl (cI, 4096, .inl (fun _ => 0)))] H := hP
  have hD : va_D A [(m0, .inr (2, [.int (nI 0), .int (nI 0), .ref q_8, .null, .null, .null, .int (nI 0), .int (nI 0), .int (nI 0), .null, .int (nI 0), .long (lN 0), .null, .int (nI 0), .int (nI 0)])), (q_8, .inl (cI, 4096, .inl (fun _ => 0)))] := hD
  refine lv_aload_n hx hb dX2_init_13 rfl (lv_at hl 0 rfl) ?_
  refine lv_sipush (v := nI 4096) hx hb dX2_init_14 (by decide) ?_
  refine xr_newaI hx hb k_3 hK hP hD hS hA 1 rfl (by omega) (show 1 + 1 ≤ 6 by omega) (show 4096 + 4096 ≤ 20680 by omega) dX2_init_17 (fun q_17 H hP hD hS => ?_)
  have hP : va_P (dC, dI) vwCl [(m0, .inr (2, [.int (nI 0), .int (nI 0), .ref q_8, .null, .null, .null, .int (nI 0), .int (nI 0), .int (nI 0), .null, .int (nI 0), .long (lN 0), .null, .int (nI 0), .int (nI 0)])), (q_8, .inl (cI, 4096, .inl (fun _ => 0))), (q_17, .inl (cI, 4096, .inl (fun _ => 0)))] H := hP
  have hD : va_D A [(m0, .inr (2, [.int (nI 0), .int (nI 0), .ref q_8, .null, .null, .null, .int (nI 0), .int (nI 0), .int (nI 0), .null, .int (nI 0), .long (lN 0), .null, .int (nI 0), .int (nI 0)])), (q_8, .inl (cI, 4096, .inl (fun _ => 0))), (q_17, .inl (cI, 4096, .inl (fun _ => 0)))] := hD
  refine W.widen (k := 2) (n := 8192) (by omega) (by omega) ?_
  refine va_putF (D := (dC, dI)) (ci := 2) (v := .ref q_17) (ty := (.array .int)) (C := RX2) (T := TX2) (N := 15) hx hb hts hin_2 tyX2 tyX2_ok nmX2 hown hK hP hD hS 0 rfl rfl 3 (by decide) k_5 (fun _ h9 => h9) rfl hin rfl (by decide +kernel) rfl rfl (Nat.le_of_ble_eq_true rfl) dX2_init_19 (fun H locs hP hD hS => ?_)
  have hP : va_P (dC, dI) vwCl [(m0, .inr (2, [.int (nI 0), .int (nI 0), .ref q_8, .ref q_17, .null, .null, .int (nI 0), .int (nI 0), .int (nI 0), .null, .int (nI 0), .long (lN 0), .null, .int (nI 0), .int (nI 0)])), (q_8, .inl (cI, 4096, .inl (fun _ => 0))), (q_17, .inl (cI, 4096, .inl (fun _ => 0)))] H := hP
  have hD : va_D A [(m0, .inr (2, [.int (nI 0), .int (nI 0), .ref q_8, .ref q_17, .null, .null, .int (nI 0), .int (nI 0), .int (nI 0), .null, .int (nI 0), .long (lN 0), .null, .int (nI 0), .int (nI 0)])), (q_8, .inl (cI, 4096, .inl (fun _ => 0))), (q_17, .inl (cI, 4096, .inl (fun _ => 0)))] := hD
  refine lv_aload_n hx hb dX2_init_22 rfl (lv_at hl 0 rfl) ?_
  refine lv_sipush (v := nI 4096) hx hb dX2_init_23 (by decide) ?_
  refine xr_newaI hx hb k_3 hK hP hD hS hA 1 rfl (by omega) (show 2 + 1 ≤ 6 by omega) (show 8192 + 4096 ≤ 20680 by omega) dX2_init_26 (fun q_26 H hP hD hS => ?_)
  have hP : va_P (dC, dI) vwCl [(m0, .inr (2, [.int (nI 0), .int (nI 0), .ref q_8, .ref q_17, .null, .null, .int (nI 0), .int (nI 0), .int (nI 0), .null, .int (nI 0), .long (lN 0), .null, .int (nI 0), .int (nI 0)])), (q_8, .inl (cI, 4096, .inl (fun _ => 0))), (q_17, .inl (cI, 4096, .inl (fun _ => 0))), (q_26, .inl (cI, 4096, .inl (fun _ => 0)))] H := hP
  have hD : va_D A [(m0, .inr (2, [.int (nI 0), .int (nI 0), .ref q_8, .ref q_17, .null, .null, .int (nI 0), .int (nI 0), .int (nI 0), .null, .int (nI 0), .long (lN 0), .null, .int (nI 0), .int (nI 0)])), (q_8, .inl (cI, 4096, .inl (fun _ => 0))), (q_17, .inl (cI, 4096, .inl (fun _ => 0))), (q_26, .inl (cI, 4096, .inl (fun _ => 0)))] := hD
  refine W.widen (k := 3) (n := 12288) (by omega) (by omega) ?_
  refine va_putF (D := (dC, dI)) (ci := 2) (v := .ref q_26) (ty := (.array .int)) (C := RX2) (T := TX2) (N := 15) hx hb hts hin_2 tyX2 tyX2_ok nmX2 hown hK hP hD hS 0 rfl rfl 4 (by decide) k_6 (fun _ h9 => h9) rfl hin rfl (by decide +kernel) rfl rfl (Nat.le_of_ble_eq_true rfl) dX2_init_28 (fun H locs hP hD hS => ?_)
  have hP : va_P (dC, dI) vwCl [(m0, .inr (2, [.int (nI 0), .int (nI 0), .ref q_8, .ref q_17, .ref q_26, .null, .int (nI 0), .int (nI 0), .int (nI 0), .null, .int (nI 0), .long (lN 0), .null, .int (nI 0), .int (nI 0)])), (q_8, .inl (cI, 4096, .inl (fun _ => 0))), (q_17, .inl (cI, 4096, .inl (fun _ => 0))), (q_26, .inl (cI, 4096, .inl (fun _ => 0)))] H := hP
  have hD : va_D A [(m0, .inr (2, [.int (nI 0), .int (nI 0), .ref q_8, .ref q_17, .ref q_26, .null, .int (nI 0), .int (nI 0), .int (nI 0), .null, .int (nI 0), .long (lN 0), .null, .int (nI 0), .int (nI 0)])), (q_8, .inl (cI, 4096, .inl (fun _ => 0))), (q_17, .inl (cI, 4096, .inl (fun _ => 0))), (q_26, .inl (cI, 4096, .inl (fun _ => 0)))] := hD
  refine lv_aload_n hx hb dX2_init_31 rfl (lv_at hl 0 rfl) ?_
  refine lv_sipush (v := nI 4096) hx hb dX2_init_32 (by decide) ?_
  refine xr_newaI hx hb k_3 hK hP hD hS hA 1 rfl (by omega) (show 3 + 1 ≤ 6 by omega) (show 12288 + 4096 ≤ 20680 by omega) dX2_init_35 (fun q_35 H hP hD hS => ?_)
  have hP : va_P (dC, dI) vwCl [(m0, .inr (2, [.int (nI 0), .int (nI 0), .ref q_8, .ref q_17, .ref q_26, .null, .int (nI 0), .int (nI 0), .int (nI 0), .null, .int (nI 0), .long (lN 0), .null, .int (nI 0), .int (nI 0)])), (q_8, .inl (cI, 4096, .inl (fun _ => 0))), (q_17, .inl (cI, 4096, .inl (fun _ => 0))), (q_26, .inl (cI, 4096, .inl (fun _ => 0))), (q_35, .inl (cI, 4096, .inl (fun _ => 0)))] H := hP
  have hD : va_D A [(m0, .inr (2, [.int (nI 0), .int (nI 0), .ref q_8, .ref q_17, .ref q_26, .null, .int (nI 0), .int (nI 0), .int (nI 0), .null, .int (nI 0), .long (lN 0), .null, .int (nI 0), .int (nI 0)])), (q_8, .inl (cI, 4096, .inl (fun _ => 0))), (q_17, .inl (cI, 4096, .inl (fun _ => 0))), (q_26, .inl (cI, 4096, .inl (fun _ => 0))), (q_35, .inl (cI, 4096, .inl (fun _ => 0)))] := hD
  refine W.widen (k := 4) (n := 16384) (by omega) (by omega) ?_
  refine va_putF (D := (dC, dI)) (ci := 2) (v := .ref q_35) (ty := (.array .int)) (C := RX2) (T := TX2) (N := 15) hx hb hts hin_2 tyX2 tyX2_ok nmX2 hown hK hP hD hS 0 rfl rfl 5 (by decide) k_7 (fun _ h9 => h9) rfl hin rfl (by decide +kernel) rfl rfl (Nat.le_of_ble_eq_true rfl) dX2_init_37 (fun H locs hP hD hS => ?_)
  have hP : va_P (dC, dI) vwCl [(m0, .inr (2, [.int (nI 0), .int (nI 0), .ref q_8, .ref q_17, .ref q_26, .ref q_35, .int (nI 0), .int (nI 0), .int (nI 0), .null, .int (nI 0), .long (lN 0), .null, .int (nI 0), .int (nI 0)])), (q_8, .inl (cI, 4096, .inl (fun _ => 0))), (q_17, .inl (cI, 4096, .inl (fun _ => 0))), (q_26, .inl (cI, 4096, .inl (fun _ => 0))), (q_35, .inl (cI, 4096, .inl (fun _ => 0)))] H := hP
  have hD : va_D A [(m0, .inr (2, [.int (nI 0), .int (nI 0), .ref q_8, .ref q_17, .ref q_26, .ref q_35, .int (nI 0), .int (nI 0), .int (nI 0), .null, .int (nI 0), .long (lN 0), .null, .int (nI 0), .int (nI 0)])), (q_8, .inl (cI, 4096, .inl (fun _ => 0))), (q_17, .inl (cI, 4096, .inl (fun _ => 0))), (q_26, .inl (cI, 4096, .inl (fun _ => 0))), (q_35, .inl (cI, 4096, .inl (fun _ => 0)))] := hD
  refine lv_aload_n hx hb dX2_init_40 rfl (lv_at hl 0 rfl) ?_
  refine lv_sipush (v := nI 4096) hx hb dX2_init_41 (by decide) ?_
  refine xr_newaN hx hb k_3 hK hP hD hS hA 1 rfl (by omega) (show 4 + 1 ≤ 6 by omega) (show 16384 + 4096 ≤ 20680 by omega) dX2_init_44 (fun q_44 H hP hD hS => ?_)
  have hP : va_P (dC, dI) vwCl [(m0, .inr (2, [.int (nI 0), .int (nI 0), .ref q_8, .ref q_17, .ref q_26, .ref q_35, .int (nI 0), .int (nI 0), .int (nI 0), .null, .int (nI 0), .long (lN 0), .null, .int (nI 0), .int (nI 0)])), (q_8, .inl (cI, 4096, .inl (fun _ => 0))), (q_17, .inl (cI, 4096, .inl (fun _ => 0))), (q_26, .inl (cI, 4096, .inl (fun _ => 0))), (q_35, .inl (cI, 4096, .inl (fun _ => 0))), (q_44, .inl (cI, 4096, .inl (fun j => nI ((fun _ => 0) j))))] H := hP
  have hD : va_D A [(m0, .inr (2, [.int (nI 0), .int (nI 0), .ref q_8, .ref q_17, .ref q_26, .ref q_35, .int (nI 0), .int (nI 0), .int (nI 0), .null, .int (nI 0), .long (lN 0), .null, .int (nI 0), .int (nI 0)])), (q_8, .inl (cI, 4096, .inl (fun _ => 0))), (q_17, .inl (cI, 4096, .inl (fun _ => 0))), (q_26, .inl (cI, 4096, .inl (fun _ => 0))), (q_35, .inl (cI, 4096, .inl (fun _ => 0))), (q_44, .inl (cI, 4096, .inl (fun j => nI ((fun _ => 0) j))))] := hD
  refine W.widen (k := 5) (n := 20480) (by omega) (by omega) ?_
  refine va_putF (D := (dC, dI)) (ci := 2) (v := .ref q_44) (ty := (.array .int)) (C := RX2) (T := TX2) (N := 15) hx hb hts hin_2 tyX2 tyX2_ok nmX2 hown hK hP hD hS 0 rfl rfl 9 (by decide) k_8 (fun _ h9 => h9) rfl hin rfl (by decide +kernel) rfl rfl (Nat.le_of_ble_eq_true rfl) dX2_init_46 (fun H locs hP hD hS => ?_)
  have hP : va_P (dC, dI) vwCl [(m0, .inr (2, [.int (nI 0), .int (nI 0), .ref q_8, .ref q_17, .ref q_26, .ref q_35, .int (nI 0), .int (nI 0), .int (nI 0), .ref q_44, .int (nI 0), .long (lN 0), .null, .int (nI 0), .int (nI 0)])), (q_8, .inl (cI, 4096, .inl (fun _ => 0))), (q_17, .inl (cI, 4096, .inl (fun _ => 0))), (q_26, .inl (cI, 4096, .inl (fun _ => 0))), (q_35, .inl (cI, 4096, .inl (fun _ => 0))), (q_44, .inl (cI, 4096, .inl (fun j => nI ((fun _ => 0) j))))] H := hP
  have hD : va_D A [(m0, .inr (2, [.int (nI 0), .int (nI 0), .ref q_8, .ref q_17, .ref q_26, .ref q_35, .int (nI 0), .int (nI 0), .int (nI 0), .ref q_44, .int (nI 0), .long (lN 0), .null, .int (nI 0), .int (nI 0)])), (q_8, .inl (cI, 4096, .inl (fun _ => 0))), (q_17, .inl (cI, 4096, .inl (fun _ => 0))), (q_26, .inl (cI, 4096, .inl (fun _ => 0))), (q_35, .inl (cI, 4096, .inl (fun _ => 0))), (q_44, .inl (cI, 4096, .inl (fun j => nI ((fun _ => 0) j))))] := hD
  refine lv_aload_n hx hb dX2_init_49 rfl (lv_at hl 0 rfl) ?_
  refine lv_sipush (v := nI 200) hx hb dX2_init_50 (by decide) ?_
  refine xr_newaN hx hb k_3 hK hP hD hS hA 1 rfl (by omega) (show 5 + 1 ≤ 6 by omega) (show 20480 + 200 ≤ 20680 by omega) dX2_init_53 (fun q_53 H hP hD hS => ?_)
  have hP : va_P (dC, dI) vwCl [(m0, .inr (2, [.int (nI 0), .int (nI 0), .ref q_8, .ref q_17, .ref q_26, .ref q_35, .int (nI 0), .int (nI 0), .int (nI 0), .ref q_44, .int (nI 0), .long (lN 0), .null, .int (nI 0), .int (nI 0)])), (q_8, .inl (cI, 4096, .inl (fun _ => 0))), (q_17, .inl (cI, 4096, .inl (fun _ => 0))), (q_26, .inl (cI, 4096, .inl (fun _ => 0))), (q_35, .inl (cI, 4096, .inl (fun _ => 0))), (q_44, .inl (cI, 4096, .inl (fun j => nI ((fun _ => 0) j)))), (q_53, .inl (cI, 200, .inl (fun j => nI ((fun _ => 0) j))))] H := hP
  have hD : va_D A [(m0, .inr (2, [.int (nI 0), .int (nI 0), .ref q_8, .ref q_17, .ref q_26, .ref q_35, .int (nI 0), .int (nI 0), .int (nI 0), .ref q_44, .int (nI 0), .long (lN 0), .null, .int (nI 0), .int (nI 0)])), (q_8, .inl (cI, 4096, .inl (fun _ => 0))), (q_17, .inl (cI, 4096, .inl (fun _ => 0))), (q_26, .inl (cI, 4096, .inl (fun _ => 0))), (q_35, .inl (cI, 4096, .inl (fun _ => 0))), (q_44, .inl (cI, 4096, .inl (fun j => nI ((fun _ => 0) j)))), (q_53, .inl (cI, 200, .inl (fun j => nI ((fun _ => 0) j))))] := hD
  refine W.widen (k := 6) (n := 20680) (by omega) (by omega) ?_
  refine va_putF (D := (dC, dI)) (ci := 2) (v := .ref q_53) (ty := (.array .int)) (C := RX2) (T := TX2) (N := 15) hx hb hts hin_2 tyX2 tyX2_ok nmX2 hown hK hP hD hS 0 rfl rfl 12 (by decide) k_9 (fun _ h9 => h9) rfl hin rfl (by decide +kernel) rfl rfl (Nat.le_of_ble_eq_true rfl) dX2_init_55 (fun H locs hP hD hS => ?_)
  have hP : va_P (dC, dI) vwCl [(m0, .inr (2, [.int (nI 0), .int (nI 0), .ref q_8, .ref q_17, .ref q_26, .ref q_35, .int (nI 0), .int (nI 0), .int (nI 0), .ref q_44, .int (nI 0), .long (lN 0), .ref q_53, .int (nI 0), .int (nI 0)])), (q_8, .inl (cI, 4096, .inl (fun _ => 0))), (q_17, .inl (cI, 4096, .inl (fun _ => 0))), (q_26, .inl (cI, 4096, .inl (fun _ => 0))), (q_35, .inl (cI, 4096, .inl (fun _ => 0))), (q_44, .inl (cI, 4096, .inl (fun j => nI ((fun _ => 0) j)))), (q_53, .inl (cI, 200, .inl (fun j => nI ((fun _ => 0) j))))] H := hP
  have hD : va_D A [(m0, .inr (2, [.int (nI 0), .int (nI 0), .ref q_8, .ref q_17, .ref q_26, .ref q_35, .int (nI 0), .int (nI 0), .int (nI 0), .ref q_44, .int (nI 0), .long (lN 0), .ref q_53, .int (nI 0), .int (nI 0)])), (q_8, .inl (cI, 4096, .inl (fun _ => 0))), (q_17, .inl (cI, 4096, .inl (fun _ => 0))), (q_26, .inl (cI, 4096, .inl (fun _ => 0))), (q_35, .inl (cI, 4096, .inl (fun _ => 0))), (q_44, .inl (cI, 4096, .inl (fun j => nI ((fun _ => 0) j)))), (q_53, .inl (cI, 200, .inl (fun j => nI ((fun _ => 0) j))))] := hD
  refine lv_aload_n hx hb dX2_init_58 rfl (lv_at hl 0 rfl) ?_
  refine lv_iload_n hx hb dX2_init_59 rfl (lv_at hl 1 rfl) ?_
  refine lv_iconst (v := nI 1) hx hb dX2_init_60 (by decide) ?_
  refine lv_icmp_ge (tgt := 68) hx hb dX2_init_61 (by decide) (fun c_61 => ?_) (fun c_61 => ?_)
  · have hx1 : ¬ x < nI 1 := fun q => by have h1 := Int32.lt_iff_toInt_lt.mp q; have h2 := Int32.le_iff_toInt_le.mp c_61; omega
    refine lv_iload_n hx hb dX2_init_68 rfl (lv_at hl 1 rfl) ?_
    refine lv_sipush (v := nI 4096) hx hb dX2_init_69 (by decide) ?_
    refine lv_icmp_le (tgt := 81) hx hb dX2_init_72 (by decide) (fun c_72 => ?_) (fun c_72 => ?_)
    · have hv9 : x = nI (cpN x) := by
        obtain ⟨j, hj, rfl⟩ := nI_of (x := x) (fun q => hx1 (Int32.lt_iff_toInt_lt.mpr (by have := (neg_int x).mp q; rw [nI_toInt (by decide)]; omega)))
        have e1 := (nI_leI hj (by decide)).mp c_72
        have e2 : ¬ j < 1 := fun q => hx1 ((nI_ltI hj (by decide)).mpr q)
        rw [cp_nat hj]
        congr 1
        omega
      refine lv_iload_n hx hb dX2_init_81 rfl (lv_at hl 1 rfl) ?_
      refine xr_top (y := nI (cpN x)) (hv9) ?_
      refine va_putF (D := (dC, dI)) (ci := 2) (v := .int (nI (cpN x))) (ty := .int) (C := RX2) (T := TX2) (N := 15) hx hb hts hin_2 tyX2 tyX2_ok nmX2 hown hK hP hD hS 0 rfl rfl 1 (by decide) k_10 (fun _ h9 => h9) rfl hin rfl (by decide +kernel) rfl rfl (Nat.le_of_ble_eq_true rfl) dX2_init_82 (fun H locs hP hD hS => ?_)
      have hP : va_P (dC, dI) vwCl [(m0, .inr (2, [.int (nI 0), .int (nI (cpN x)), .ref q_8, .ref q_17, .ref q_26, .ref q_35, .int (nI 0), .int (nI 0), .int (nI 0), .ref q_44, .int (nI 0), .long (lN 0), .ref q_53, .int (nI 0), .int (nI 0)])), (q_8, .inl (cI, 4096, .inl (fun _ => 0))), (q_17, .inl (cI, 4096, .inl (fun _ => 0))), (q_26, .inl (cI, 4096, .inl (fun _ => 0))), (q_35, .inl (cI, 4096, .inl (fun _ => 0))), (q_44, .inl (cI, 4096, .inl (fun j => nI ((fun _ => 0) j)))), (q_53, .inl (cI, 200, .inl (fun j => nI ((fun _ => 0) j))))] H := hP
      have hD : va_D A [(m0, .inr (2, [.int (nI 0), .int (nI (cpN x)), .ref q_8, .ref q_17, .ref q_26, .ref q_35, .int (nI 0), .int (nI 0), .int (nI 0), .ref q_44, .int (nI 0), .long (lN 0), .ref q_53, .int (nI 0), .int (nI 0)])), (q_8, .inl (cI, 4096, .inl (fun _ => 0))), (q_17, .inl (cI, 4096, .inl (fun _ => 0))), (q_26, .inl (cI, 4096, .inl (fun _ => 0))), (q_35, .inl (cI, 4096, .inl (fun _ => 0))), (q_44, .inl (cI, 4096, .inl (fun j => nI ((fun _ => 0) j)))), (q_53, .inl (cI, 200, .inl (fun j => nI ((fun _ => 0) j))))] := hD
      exact hret (q_8, q_17, q_26, q_35, q_44, q_53) _ _ _ _ _ _ (trivial) hP hK hD hS (Nat.le_of_ble_eq_true rfl) (Nat.le_of_ble_eq_true rfl) dX2_init_85
    · have hv9 : nI 4096 = nI (cpN x) := by
        have h7 : 4096 < x.toInt := by have := Int.not_le.mp (fun q => c_72 (Int32.le_iff_toInt_le.mpr q)); rw [nI_toInt (by decide)] at this; exact this
        have hc : x.toNatClampNeg = x.toInt.toNat := rfl
        unfold cpN
        rw [hc]
        congr 1
        omega
      refine lv_sipush (v := nI 4096) hx hb dX2_init_75 (by decide) ?_
      refine lv_goto (tgt := 82) hx hb dX2_init_78 (by decide) ?_
      refine xr_top (y := nI (cpN x)) (hv9) ?_
      refine va_putF (D := (dC, dI)) (ci := 2) (v := .int (nI (cpN x))) (ty := .int) (C := RX2) (T := TX2) (N := 15) hx hb hts hin_2 tyX2 tyX2_ok nmX2 hown hK hP hD hS 0 rfl rfl 1 (by decide) k_10 (fun _ h9 => h9) rfl hin rfl (by decide +kernel) rfl rfl (Nat.le_of_ble_eq_true rfl) dX2_init_82 (fun H locs hP hD hS => ?_)
      have hP : va_P (dC, dI) vwCl [(m0, .inr (2, [.int (nI 0), .int (nI (cpN x)), .ref q_8, .ref q_17, .ref q_26, .ref q_35, .int (nI 0), .int (nI 0), .int (nI 0), .ref q_44, .int (nI 0), .long (lN 0), .ref q_53, .int (nI 0), .int (nI 0)])), (q_8, .inl (cI, 4096, .inl (fun _ => 0))), (q_17, .inl (cI, 4096, .inl (fun _ => 0))), (q_26, .inl (cI, 4096, .inl (fun _ => 0))), (q_35, .inl (cI, 4096, .inl (fun _ => 0))), (q_44, .inl (cI, 4096, .inl (fun j => nI ((fun _ => 0) j)))), (q_53, .inl (cI, 200, .inl (fun j => nI ((fun _ => 0) j))))] H := hP
      have hD : va_D A [(m0, .inr (2, [.int (nI 0), .int (nI (cpN x)), .ref q_8, .ref q_17, .ref q_26, .ref q_35, .int (nI 0), .int (nI 0), .int (nI 0), .ref q_44, .int (nI 0), .long (lN 0), .ref q_53, .int (nI 0), .int (nI 0)])), (q_8, .inl (cI, 4096, .inl (fun _ => 0))), (q_17, .inl (cI, 4096, .inl (fun _ => 0))), (q_26, .inl (cI, 4096, .inl (fun _ => 0))), (q_35, .inl (cI, 4096, .inl (fun _ => 0))), (q_44, .inl (cI, 4096, .inl (fun j => nI ((fun _ => 0) j)))), (q_53, .inl (cI, 200, .inl (fun j => nI ((fun _ => 0) j))))] := hD
      exact hret (q_8, q_17, q_26, q_35, q_44, q_53) _ _ _ _ _ _ (trivial) hP hK hD hS (Nat.le_of_ble_eq_true rfl) (Nat.le_of_ble_eq_true rfl) dX2_init_85
  · have hv9 : nI 1 = nI (cpN x) := cp_neg (Int32.lt_iff_toInt_lt.mpr (Int.not_le.mp (fun q => c_61 (Int32.le_iff_toInt_le.mpr q))))
    refine lv_iconst (v := nI 1) hx hb dX2_init_64 (by decide) ?_
    refine lv_goto (tgt := 82) hx hb dX2_init_65 (by decide) ?_
    refine xr_top (y := nI (cpN x)) (hv9) ?_
    refine va_putF (D := (dC, dI)) (ci := 2) (v := .int (nI (cpN x))) (ty := .int) (C := RX2) (T := TX2) (N := 15) hx hb hts hin_2 tyX2 tyX2_ok nmX2 hown hK hP hD hS 0 rfl rfl 1 (by decide) k_10 (fun _ h9 => h9) rfl hin rfl (by decide +kernel) rfl rfl (Nat.le_of_ble_eq_true rfl) dX2_init_82 (fun H locs hP hD hS => ?_)
    have hP : va_P (dC, dI) vwCl [(m0, .inr (2, [.int (nI 0), .int (nI (cpN x)), .ref q_8, .ref q_17, .ref q_26, .ref q_35, .int (nI 0), .int (nI 0), .int (nI 0), .ref q_44, .int (nI 0), .long (lN 0), .ref q_53, .int (nI 0), .int (nI 0)])), (q_8, .inl (cI, 4096, .inl (fun _ => 0))), (q_17, .inl (cI, 4096, .inl (fun _ => 0))), (q_26, .inl (cI, 4096, .inl (fun _ => 0))), (q_35, .inl (cI, 4096, .inl (fun _ => 0))), (q_44, .inl (cI, 4096, .inl (fun j => nI ((fun _ => 0) j)))), (q_53, .inl (cI, 200, .inl (fun j => nI ((fun _ => 0) j))))] H := hP
    have hD : va_D A [(m0, .inr (2, [.int (nI 0), .int (nI (cpN x)), .ref q_8, .ref q_17, .ref q_26, .ref q_35, .int (nI 0), .int (nI 0), .int (nI 0), .ref q_44, .int (nI 0), .long (lN 0), .ref q_53, .int (nI 0), .int (nI 0)])), (q_8, .inl (cI, 4096, .inl (fun _ => 0))), (q_17, .inl (cI, 4096, .inl (fun _ => 0))), (q_26, .inl (cI, 4096, .inl (fun _ => 0))), (q_35, .inl (cI, 4096, .inl (fun _ => 0))), (q_44, .inl (cI, 4096, .inl (fun j => nI ((fun _ => 0) j)))), (q_53, .inl (cI, 200, .inl (fun j => nI ((fun _ => 0) j))))] := hD
    exact hret (q_8, q_17, q_26, q_35, q_44, q_53) _ _ _ _ _ _ (trivial) hP hK hD hS (Nat.le_of_ble_eq_true rfl) (Nat.le_of_ble_eq_true rfl) dX2_init_85

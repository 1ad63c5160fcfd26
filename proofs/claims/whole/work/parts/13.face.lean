theorem CI.mkF {l : Launch} {y : MethodName} {ws ws' : List Cond} {rm : Room} {av : List Value} {D : va_G} {cl : List vw_C} {tys : List (ClassId × FieldType)} {wc : va_W} {S : Type} {post : Int32 → S → Prop} {t1 : S → List (ClassId × FieldType)} {w1 : S → va_W} {cc : ByteArray} {maxL : Nat} {ty : FieldType}
    (hy : plainFor y = true) (hw : ws = Cond.code y cc maxL (some ty) :: ws') (hlen : (lg_sl av).length ≤ maxL)
    (body : ∀ (p : Program) (e : Env) (s : State) (m : MethodId) (args : Array Value) (below : List Frame) (meth : Method) (c : Code) (A : Nat → Prop) (Q : State → Prop) (ls : Array Slot), p.tables.exec = Jvm.exec → c.code = cc → c.maxLocals = maxL → s.vm.findClass y.cls = some m.cls → (∀ w ∈ ws, w.before args s = true) → (∀ q : Nat, s.heap.size ≤ q → A q) → va_S A s.heap s.heap [] → va_P D cl wc s.heap → va_D A wc → va_K D cl tys s → NW s → lv_has ls maxL (lv_args 0 av) →
      RetI p l e rm s m args below meth c cc A D cl ty post t1 w1 Q → W p l e rm s m args below meth c s.heap [] 0 0 Q (F0 m 0 ls [])) : CI l y ws rm av D cl tys wc post t1 w1 := by
  intro sz
  refine va_MetF (cc := cc) (maxL := maxL) (ret := some ty) hy hw ?_
  intro p e s m args below meth c s₁ B hml hv
  obtain ⟨rfl, hsz, hP, hK, hD0, hN⟩ := hv
  subst hsz
  rw [lg_entry_eq]
  have hlocks := B.notSynchronized
  refine body p e s m _ below meth c (va_A wc s.heap.size) _ _ B.exec B.bytes hml (findClass_of_methodNamed B.named) (atoms_spec (ws := ws) B.pre) (fun q h => Or.inr h) va_S.rf hP hD0.self hK hN (lv_entry av hlen) ?_
  intro u v H locs cells slots pc ls hpost hP9 hK9 hD9 hS hc hs hn hdg
  refine W.widen (k := rm.cells) (n := rm.slots) hc hs ?_
  exact W.zret B.exec B.bytes B.returns hn (fun t ht hW => ⟨⟨v, u, rfl, hpost, by rw [ht]; exact hP9, va_K.moved hW.alike hK9, hD9⟩, hS.F ht⟩) hS.2.2 hdg
/-- an answer at a place, nothing (0) where there is none -/
def atV (g : Nat → Int32) (i : Int32) (n : Nat) : Int32 := if 0 ≤ i.toInt ∧ i.toInt < (n : Int) then g i.toNatClampNeg else nI 0
theorem atV_in {g : Nat → Int32} {j n : Nat} (h : j < n) (hn : n ≤ 4096) : g j = atV g (nI j) n := by
  unfold atV
  rw [nI_toInt (by omega), if_pos (by omega), nI_clamp (by omega)]
theorem pl_iff {i : Int32} {n : Nat} (hn : n ≤ 4096) : (∃ j, j < n ∧ i = nI j) ↔ (0 ≤ i.toInt ∧ i.toInt < (n : Int)) := by
  constructor
  · rintro ⟨j, hj, rfl⟩
    rw [nI_toInt (by omega)]
    omega
  · rintro ⟨h1, h2⟩
    refine ⟨i.toInt.toNat, by omega, ?_⟩
    apply Int32.toInt_inj.mp
    rw [nI_toInt (by omega)]
    omega
theorem atV_out {g : Nat → Int32} {i : Int32} {n : Nat} (hn : n ≤ 4096) (h : ¬ ∃ j, j < n ∧ i = nI j) : nI 0 = atV g i n := by
  unfold atV
  rw [if_neg (fun q => h ((pl_iff hn).mpr q))]
theorem zS {a b : Nat} (ha : a < 2 ^ 31) (hb : b < 2 ^ 31) : (nI a - nI b).toInt = (a : Int) - b := by
  rw [Int32.toInt_sub, nI_toInt ha, nI_toInt hb]
  apply Int.bmod_eq_of_le <;> omega
/-- what is turned: all of it is there -/
def trC (i k : Int32) (n : Nat) : Prop := ∃ a b : Nat, a + b ≤ n ∧ i = nI a ∧ k = nI b
/-- work's answer -/
def wkV (wh i : Int32) (ru : Nat) (rl : Nat → Nat) (me : Nat) (mp : Int64) : Int64 := if wh = nI 0 then (nI ru).toInt64 else if wh = nI 1 then (nI me).toInt64 else if wh = nI 2 then mp else if wh = nI 3 then (if 0 ≤ i.toInt ∧ i.toInt < (ru : Int) then (nI (rl i.toNatClampNeg)).toInt64 else lN 0) else lN 0
theorem tsw4 {x : Int32} (h0 : ¬ x = nI 0) (h1 : ¬ x = nI 1) (h2 : ¬ x = nI 2) (h3 : ¬ x = nI 3) : x.toInt < 0 ∨ 3 < x.toInt := by
  by_cases hx : x.toInt < 0 ∨ 3 < x.toInt
  · exact hx
  · have key : ∀ k : Nat, k < 2 ^ 31 → x.toInt = (k : Int) → x = nI k := fun k hk e => Int32.toInt_inj.mp (by rw [nI_toInt hk]; exact e)
    rcases (show x.toInt = 0 ∨ x.toInt = 1 ∨ x.toInt = 2 ∨ x.toInt = 3 by omega) with e | e | e | e
    · exact absurd (key 0 (by decide) e) h0
    · exact absurd (key 1 (by decide) e) h1
    · exact absurd (key 2 (by decide) e) h2
    · exact absurd (key 3 (by decide) e) h3
/-- floorMod, as the bytes have it -/
def fmI (x y : Int32) : Int32 := if x ^^^ y < 0 ∧ ¬ (x - x / y * y) = 0 then x - x / y * y + y else x - x / y * y
theorem neg_msb (x : Int32) : x < 0 ↔ x.toBitVec.msb = true := by
  rw [Int32.lt_iff_toInt_lt, BitVec.msb_eq_toInt]
  simp only [decide_eq_true_eq]
  exact Iff.rfl
theorem neg_int (x : Int32) : x < 0 ↔ x.toInt < 0 := by
  rw [Int32.lt_iff_toInt_lt]
  exact Iff.rfl
theorem rem_int {x y : Int32} (hy : 0 < y.toInt) : (x - x / y * y).toInt = x.toInt.tmod y.toInt := by
  have hy2 : y.toInt < 2 ^ 31 := y.toInt_lt
  rw [Int32.toInt_sub, Int32.toInt_mul, Int32.toInt_div]
  simp only [Int.sub_bmod_bmod, Int.bmod_mul_bmod]
  have e : x.toInt - x.toInt.tdiv y.toInt * y.toInt = x.toInt.tmod y.toInt := by
    have := Int.tmod_add_tdiv_mul x.toInt y.toInt
    omega
  rw [e]
  have h1 := Int.tmod_lt_of_pos x.toInt hy
  have h2 : -y.toInt < x.toInt.tmod y.toInt := by
    have := Int.lt_tmod_of_pos x.toInt hy
    omega
  apply Int.bmod_eq_of_le <;> omega
theorem fm_pos {x y : Int32} (hy : 0 < y) : fmI x y = if x - x / y * y < 0 then x - x / y * y + y else x - x / y * y := by
  have hy0 : 0 < y.toInt := Int32.lt_iff_toInt_lt.mp hy
  unfold fmI
  have hr := rem_int (x := x) hy0
  have hym : y.toBitVec.msb = false := by
    cases h : y.toBitVec.msb with
    | false => rfl
    | true => exact absurd ((neg_int y).mp ((neg_msb y).mpr h)) (by omega)
  have e : (x ^^^ y < 0) ↔ x.toInt < 0 := by
    rw [neg_msb, Int32.toBitVec_xor, BitVec.msb_xor, hym, Bool.xor_false, ← neg_msb, neg_int]
  generalize x - x / y * y = r at *
  by_cases hx : x.toInt < 0
  · have h1 : x.toInt.tmod y.toInt ≤ 0 := by
      have h9 := Int.neg_tmod (-x.toInt) y.toInt
      rw [Int.neg_neg] at h9
      have h8 := Int.tmod_nonneg (a := -x.toInt) y.toInt (by omega)
      omega
    by_cases h0 : r = 0
    · rw [if_neg (fun q => q.2 h0), if_neg (by rw [h0]; decide)]
    · rw [if_pos ⟨e.mpr hx, h0⟩, if_pos ((neg_int r).mpr (by
        have h2 : r.toInt ≠ 0 := fun q => h0 (Int32.toInt_inj.mp (by rw [q]; rfl))
        omega))]
  · have h1 : 0 ≤ x.toInt.tmod y.toInt := Int.tmod_nonneg _ (by omega)
    rw [if_neg (fun q => hx (e.mp q.1)), if_neg (fun q => by have := (neg_int r).mp q; omega)]
/-- how many come by fill -/
def fcN (x : Int32) (k : Nat) : Nat := min x.toNatClampNeg k
theorem fc_eq (x : Int32) {k : Nat} (hk : k < 2 ^ 31) : (if nI 0 < (if nI k < x then nI k else x) then (if nI k < x then nI k else x) else nI 0) = nI (fcN x k) := by
  unfold fcN
  by_cases hx : x < 0
  · have h0 : x.toInt < 0 := by have := Int32.lt_iff_toInt_lt.mp hx; simpa using this
    have hc : x.toNatClampNeg = 0 := by show x.toInt.toNat = 0; omega
    have h1 : ¬ nI k < x := fun q => by
      have := Int32.lt_iff_toInt_lt.mp q
      rw [nI_toInt hk] at this
      omega
    rw [if_neg h1, if_neg (fun q => by
      have := Int32.lt_iff_toInt_lt.mp q
      rw [nI_toInt (by decide)] at this
      omega), hc, Nat.zero_min]
  · obtain ⟨j, hj, rfl⟩ := nI_of hx
    rw [nI_clamp hj]
    by_cases h1 : k < j
    · rw [if_pos ((nI_ltI hk hj).mpr h1), Nat.min_eq_right (by omega)]
      by_cases h2 : 0 < k
      · rw [if_pos ((nI_ltI (by decide) hk).mpr h2)]
      · rw [if_neg (fun q => h2 ((nI_ltI (by decide) hk).mp q)), show k = 0 by omega]
    · rw [if_neg (fun q => h1 ((nI_ltI hk hj).mp q)), Nat.min_eq_left (by omega)]
      by_cases h2 : 0 < j
      · rw [if_pos ((nI_ltI (by decide) hj).mpr h2)]
      · rw [if_neg (fun q => h2 ((nI_ltI (by decide) hj).mp q)), show j = 0 by omega]
/-- the key that fill makes at i -/
def fkI (key step m : Int32) (i : Nat) : Int32 := if 0 < m then fmI (key + nI i * step) m else key + nI i * step
/-- the list with i more behind its n -/
def flF (f : Nat → Int64) (n : Nat) (key step m tag : Int32) (i : Nat) : Nat → Int64 := fun j => if n ≤ j ∧ j < n + i then prI (fkI key step m (j - n)) (tag + nI (j - n)) else f j
theorem flF_0 (f : Nat → Int64) (n : Nat) (key step m tag : Int32) : flF f n key step m tag 0 = f := by
  funext j
  unfold flF
  rw [if_neg (by omega)]
theorem flF_s (f : Nat → Int64) (n : Nat) (key step m tag : Int32) (i : Nat) : uN_up (flF f n key step m tag i) (n + i) (prI (fkI key step m i) (tag + nI i)) = flF f n key step m tag (i + 1) := by
  funext j
  by_cases h : j = n + i
  · subst h
    rw [up_s]
    unfold flF
    rw [if_pos (by omega), Nat.add_sub_cancel_left]
  · rw [up_n h]
    unfold flF
    by_cases h2 : n ≤ j ∧ j < n + i
    · rw [if_pos h2, if_pos (by omega)]
    · rw [if_neg h2, if_neg (by omega)]
abbrev rmJ9_floorMod_7cf53 : Room := { frames := 0, cells := 0, slots := 0, locals := 0 }
set_option maxRecDepth 100000 in
set_option maxHeartbeats 4000000 in
theorem c_J9_floorMod_7cf53 (l : Launch) (dC : Nat → ClassId) (dI : Nat → Nat → Nat) (cJ cI : ClassId) (a b : Int32) (hb0 : ¬ b = 0) : CI l yJ9_floorMod_7cf53 wsJ9_floorMod_7cf53 rmJ9_floorMod_7cf53 [.int a, .int b] (dC, dI) vwCl (KT cJ cI) [] (S := Unit) (fun r _ => r = fmI a b) (fun _ => KT cJ cI) (fun _ => []) := by
  refine CI.mkF (by decide +kernel) rfl (Nat.le_of_ble_eq_true rfl) ?_
  intro p e s m args below meth c A Q ls hx hb hml hown hts hA hS hP hD hK hN hl hret
  have hl : lv_has ls 3 [(0, .int a), (1, .int b)] := hl
  refine lv_iload_n hx hb dJ9_floorMod_7cf53_0 rfl (lv_at hl 0 rfl) ?_
  refine lv_iload_n hx hb dJ9_floorMod_7cf53_1 rfl (lv_at hl 1 rfl) ?_
  refine lv_irem hx hb dJ9_floorMod_7cf53_2 (hb0) ?_
  refine lv_istore_n (lv' := [(2, .int (a - a / b * b)), (0, .int a), (1, .int b)]) hx hb dJ9_floorMod_7cf53_3 rfl hl (by decide) rfl (fun ls hl => ?_)
  refine lv_iload_n hx hb dJ9_floorMod_7cf53_4 rfl (lv_at hl 1 rfl) ?_
  refine lv_iload_n hx hb dJ9_floorMod_7cf53_5 rfl (lv_at hl 2 rfl) ?_
  refine lv_ixor hx hb dJ9_floorMod_7cf53_6 ?_
  refine lv_if_ge (tgt := 18) hx hb dJ9_floorMod_7cf53_7 (by decide) (fun c_7 => ?_) (fun c_7 => ?_)
  · have c_7 : ¬ (a ^^^ b < 0) := fun q => absurd (Int32.lt_iff_toInt_lt.mp q) (by have := Int32.le_iff_toInt_le.mp c_7; omega)
    refine lv_iload_n hx hb dJ9_floorMod_7cf53_18 rfl (lv_at hl 0 rfl) ?_
    exact hret () _ _ _ _ _ _ _ (by unfold fmI; rw [if_neg (fun q => c_7 q.1)]) hP hK hD hS (Nat.le_of_ble_eq_true rfl) (Nat.le_of_ble_eq_true rfl) (rfl) dJ9_floorMod_7cf53_19
  · have c_7 : a ^^^ b < 0 := Int32.lt_iff_toInt_lt.mpr (Int.not_le.mp (fun q => c_7 (Int32.le_iff_toInt_le.mpr q)))
    refine lv_iload_n hx hb dJ9_floorMod_7cf53_10 rfl (lv_at hl 0 rfl) ?_
    refine lv_if_eq (tgt := 18) hx hb dJ9_floorMod_7cf53_11 (by decide) (fun c_11 => ?_) (fun c_11 => ?_)
    · refine lv_iload_n hx hb dJ9_floorMod_7cf53_18 rfl (lv_at hl 0 rfl) ?_
      exact hret () _ _ _ _ _ _ _ (by unfold fmI; rw [if_neg (fun q => q.2 c_11)]) hP hK hD hS (Nat.le_of_ble_eq_true rfl) (Nat.le_of_ble_eq_true rfl) (rfl) dJ9_floorMod_7cf53_19
    · refine lv_iload_n hx hb dJ9_floorMod_7cf53_14 rfl (lv_at hl 0 rfl) ?_
      refine lv_iload_n hx hb dJ9_floorMod_7cf53_15 rfl (lv_at hl 2 rfl) ?_
      refine lv_iadd hx hb dJ9_floorMod_7cf53_16 ?_
      exact hret () _ _ _ _ _ _ _ (by unfold fmI; rw [if_pos ⟨c_7, c_11⟩]) hP hK hD hS (Nat.le_of_ble_eq_true rfl) (Nat.le_of_ble_eq_true rfl) (rfl) dJ9_floorMod_7cf53_17
abbrev rmX1_put : Room := { frames := 1, cells := 0, slots := 0, locals := 21 }
set_option maxRecDepth 100000 in
set_option maxHeartbeats 4000000 in
theorem c_X1_put (l : Launch) (dC : Nat → ClassId) (dI : Nat → Nat → Nat) (cJ cI : ClassId) (o oP oA oL oR C n ru me gh : Nat) (mp : Int64) (f : Nat → Int64) (k t : Int32) (hn : n ≤ C) (hC : C ≤ 4096) : CI l yX1_put wsX1_put rmX1_put [.ref o, .int k, .int t] (dC, dI) vwCl (KT cJ cI) [(o, .inr (1, [.ref oP, .int (nI n), .ref oA, .ref oL, .ref oR, .int (nI ru), .int (nI me), .long mp, .int (nI gh)])), (oP, .inl (cJ, C, .inr (.inl f)))] (S := Nat × (Nat → Int64)) (fun r u => (n < C ∧ r = nI 1 ∧ u = (n + 1, uN_up f n (prI k t))) ∨ (¬ n < C ∧ r = nI 0 ∧ u = (n, f))) (fun _ => KT cJ cI) (fun u => [(o, .inr (1, [.ref oP, .int (nI u.1), .ref oA, .ref oL, .ref oR, .int (nI ru), .int (nI me), .long mp, .int (nI gh)])), (oP, .inl (cJ, C, .inr (.inl u.2)))]) := by
  refine CI.mk (by decide) rfl (Nat.le_of_ble_eq_true rfl) ?_
  intro p e s m args below meth c A Q ls hx hb hml hown hts hA hS hP hD hK hN hl hret
  have hl : lv_has ls 3 [(0, .ref o), (1, .int k), (2, .int t)] := hl
  have hin_1 : ∀ w ∈ u_ws RX1 TX1 9, w ∈ wsX1_put := by decide +kernel
  have k_1 := hts (Cond.fieldLink RX1 38 "PairSorter" "size" "I") (by decide +kernel)
  have k_2 := hts (Cond.fieldLink RX1 18 "PairSorter" "pairs" "[J") (by decide +kernel)
  refine lv_aload_n hx hb dX1_put_0 rfl (lv_at hl 0 rfl) ?_
  refine va_get (D := (dC, dI)) (ci := 1) (v := .int (nI n)) (C := RX1) (T := TX1) (N := 9) hx hb hts hin_1 hown hK hP 0 rfl rfl 1 (by decide) k_1 (fun _ h9 => h9) rfl dX1_put_1 ?_
  refine lv_aload_n hx hb dX1_put_4 rfl (lv_at hl 0 rfl) ?_
  refine va_get (D := (dC, dI)) (ci := 1) (v := .ref oP) (C := RX1) (T := TX1) (N := 9) hx hb hts hin_1 hown hK hP 0 rfl rfl 0 (by decide) k_2 (fun _ h9 => h9) rfl dX1_put_5 ?_
  refine va_alen (v := nI C) hx hb hK hP 1 0 rfl rfl rfl dX1_put_8 ?_
  refine xr_icmp_lt (tgt := 14) hx hb dX1_put_9 (by decide) (by omega) (by omega) (fun c_9 => ?_) (fun c_9 => ?_)
  · refine lv_aload_n hx hb dX1_put_14 rfl (lv_at hl 0 rfl) ?_
    refine va_get (D := (dC, dI)) (ci := 1) (v := .ref oP) (C := RX1) (T := TX1) (N := 9) hx hb hts hin_1 hown hK hP 0 rfl rfl 0 (by decide) k_2 (fun _ h9 => h9) rfl dX1_put_15 ?_
    refine lv_aload_n hx hb dX1_put_18 rfl (lv_at hl 0 rfl) ?_
    refine va_get (D := (dC, dI)) (ci := 1) (v := .int (nI n)) (C := RX1) (T := TX1) (N := 9) hx hb hts hin_1 hown hK hP 0 rfl rfl 1 (by decide) k_1 (fun _ h9 => h9) rfl dX1_put_19 ?_
    refine lv_iload_n hx hb dX1_put_22 rfl (lv_at hl 1 rfl) ?_
    refine lv_iload_n hx hb dX1_put_23 rfl (lv_at hl 2 rfl) ?_
    refine call_S_L (As := [.int k, .int t]) (rest := [.int (nI n), .ref oP]) (wr := [(o, .inr (1, [.ref oP, .int (nI n), .ref oA, .ref oL, .ref oR, .int (nI ru), .int (nI me), .long mp, .int (nI gh)])), (oP, .inl (cJ, C, .inr (.inl f)))]) ⟨hx, hb, hml, hown, hts⟩ (c_X1_pairOf l dC dI cJ cI k t) (va_cwS 2 hts gX1_put_X1_pairOf rfl rfl rfl (by decide +kernel) ⟨Nat.le_of_ble_eq_true rfl, Nat.le_of_ble_eq_true rfl⟩) hP hD hK hN hS hA [] [0, 1] [0, 1] rfl rfl rfl (by decide) (by decide) (by decide) rfl hl.1 rfl (Nat.le_of_ble_eq_true rfl) dX1_put_24 (Nat.le_of_ble_eq_true rfl) (Nat.le_of_ble_eq_true rfl) (fun r_24 u_24 H locs hw_24 hP hD hK1 hS => ?_)
    refine W.widen (k := 0) (n := 0) (Nat.le_of_ble_eq_true rfl) (Nat.le_of_ble_eq_true rfl) ?_
    have hP : va_P (dC, dI) vwCl [(o, .inr (1, [.ref oP, .int (nI n), .ref oA, .ref oL, .ref oR, .int (nI ru), .int (nI me), .long mp, .int (nI gh)])), (oP, .inl (cJ, C, .inr (.inl f)))] H := ct_Psub hP [0, 1] rfl
    have hD : va_D A [(o, .inr (1, [.ref oP, .int (nI n), .ref oA, .ref oL, .ref oR, .int (nI ru), .int (nI me), .long mp, .int (nI gh)])), (oP, .inl (cJ, C, .inr (.inl f)))] := hD.sub [0, 1] (by decide) rfl
    refine xr_topl (y := prI k t) (hw_24) ?_
    refine xr_last hx hb hK hP hD hS 1 0 rfl rfl (by omega) (by omega) dX1_put_27 (fun H locs hP hD hS => ?_)
    have hP : va_P (dC, dI) vwCl [(o, .inr (1, [.ref oP, .int (nI n), .ref oA, .ref oL, .ref oR, .int (nI ru), .int (nI me), .long mp, .int (nI gh)])), (oP, .inl (cJ, C, .inr (.inl (uN_up f n (prI k t)))))] H := hP
    have hD : va_D A [(o, .inr (1, [.ref oP, .int (nI n), .ref oA, .ref oL, .ref oR, .int (nI ru), .int (nI me), .long mp, .int (nI gh)])), (oP, .inl (cJ, C, .inr (.inl (uN_up f n (prI k t)))))] := hD
    refine lv_aload_n hx hb dX1_put_28 rfl (lv_at hl 0 rfl) ?_
    refine lv_dup hx hb dX1_put_29 rfl ?_
    refine va_get (D := (dC, dI)) (ci := 1) (v := .int (nI n)) (C := RX1) (T := TX1) (N := 9) hx hb hts hin_1 hown hK hP 0 rfl rfl 1 (by decide) k_1 (fun _ h9 => h9) rfl dX1_put_30 ?_
    refine lv_iconst (v := nI 1) hx hb dX1_put_33 (by decide) ?_
    refine xr_iadd hx hb dX1_put_34 ?_
    refine va_put (D := (dC, dI)) (ci := 1) (v := .int (nI (n + 1))) (ty := .int) (C := RX1) (T := TX1) (N := 9) hx hb hts hin_1 tyX1 tyX1_ok nmX1 hown hK hP hD hS 0 rfl rfl 1 (by decide) k_1 (fun _ h9 => h9) rfl (by decide +kernel) rfl rfl (Nat.le_of_ble_eq_true rfl) dX1_put_35 (fun H locs hP hD hS => ?_)
    have hP : va_P (dC, dI) vwCl [(o, .inr (1, [.ref oP, .int (nI (n + 1)), .ref oA, .ref oL, .ref oR, .int (nI ru), .int (nI me), .long mp, .int (nI gh)])), (oP, .inl (cJ, C, .inr (.inl (uN_up f n (prI k t)))))] H := hP
    have hD : va_D A [(o, .inr (1, [.ref oP, .int (nI (n + 1)), .ref oA, .ref oL, .ref oR, .int (nI ru), .int (nI me), .long mp, .int (nI gh)])), (oP, .inl (cJ, C, .inr (.inl (uN_up f n (prI k t)))))] := hD
    refine lv_iconst (v := nI 1) hx hb dX1_put_38 (by decide) ?_
    exact hret (n + 1, uN_up f n (prI k t)) _ _ _ _ _ _ _ (Or.inl ⟨by omega, rfl, rfl⟩) hP hK hD hS (Nat.le_of_ble_eq_true rfl) (Nat.le_of_ble_eq_true rfl) (rfl) dX1_put_39
  · refine lv_iconst (v := nI 0) hx hb dX1_put_12 (by decide) ?_
    exact hret (n, f) _ _ _ _ _ _ _ (Or.inr ⟨by omega, rfl, rfl⟩) hP hK hD hS (Nat.le_of_ble_eq_true rfl) (Nat.le_of_ble_eq_true rfl) (rfl) dX1_put_13
abbrev rmX1_fill : Room := { frames := 1, cells := 0, slots := 0, locals := 24 }
set_option maxRecDepth 100000 in
set_option maxHeartbeats 4000000 in
theorem c_X1_fill (l : Launch) (dC : Nat → ClassId) (dI : Nat → Nat → Nat) (cJ cI : ClassId) (o oP oA oL oR C n ru me gh : Nat) (mp : Int64) (f : Nat → Int64) (x key step m9 tag : Int32) (hn : n ≤ C) (hC : C ≤ 4096) : CI l yX1_fill wsX1_fill rmX1_fill [.ref o, .int x, .int key, .int step, .int m9, .int tag] (dC, dI) vwCl (KT cJ cI) [(o, .inr (1, [.ref oP, .int (nI n), .ref oA, .ref oL, .ref oR, .int (nI ru), .int (nI me), .long mp, .int (nI gh)])), (oP, .inl (cJ, C, .inr (.inl f)))] (S := Unit) (fun r _ => r = nI (fcN x (C - n))) (fun _ => KT cJ cI) (fun _ => [(o, .inr (1, [.ref oP, .int (nI (n + fcN x (C - n))), .ref oA, .ref oL, .ref oR, .int (nI ru), .int (nI me), .long mp, .int (nI gh)])), (oP, .inl (cJ, C, .inr (.inl (flF f n key step m9 tag (fcN x (C - n))))))]) := by
  refine CI.mk (by decide) rfl (Nat.le_of_ble_eq_true rfl) ?_
  intro p e s m args below meth c A Q ls hx hb hml hown hts hA hS hP hD hK hN hl hret
  have hl : lv_has ls 9 [(0, .ref o), (1, .int x), (2, .int key), (3, .int step), (4, .int m9), (5, .int tag)] := hl
  have hin_1 : ∀ w ∈ u_ws RX1 TX1 9, w ∈ wsX1_fill := by decide +kernel
  have k_1 := hts (Cond.fieldLink RX1 18 "PairSorter" "pairs" "[J") (by decide +kernel)
  have k_2 := hts (Cond.fieldLink RX1 38 "PairSorter" "size" "I") (by decide +kernel)
  have k_3 := hts (Cond.methodLink RX1 9 Lib.Math.min.name) (by decide +kernel)
  have k_4 := hts (Cond.static Lib.Math.min.name) (by decide +kernel)
  have k_5 := hts (Cond.initialized "java/lang/Math") (by decide +kernel)
  have k_6 := hts (Cond.code Lib.Math.min.name Lib.Math.min.code 2 (some .int)) (by decide +kernel)
  have k_7 := hts (Cond.methodLink RX1 15 Lib.Math.max.name) (by decide +kernel)
  have k_8 := hts (Cond.static Lib.Math.max.name) (by decide +kernel)
  have k_9 := hts (Cond.code Lib.Math.max.name Lib.Math.max.code 2 (some .int)) (by decide +kernel)
  have hfc : fcN x (C - n) ≤ C - n := Nat.min_le_right _ _
  refine lv_iconst (v := nI 0) hx hb dX1_fill_0 (by decide) ?_
  refine lv_iload_n hx hb dX1_fill_1 rfl (lv_at hl 1 rfl) ?_
  refine lv_aload_n hx hb dX1_fill_2 rfl (lv_at hl 0 rfl) ?_
  refine va_get (D := (dC, dI)) (ci := 1) (v := .ref oP) (C := RX1) (T := TX1) (N := 9) hx hb hts hin_1 hown hK hP 0 rfl rfl 0 (by decide) k_1 (fun _ h9 => h9) rfl dX1_fill_3 ?_
  refine va_alen (v := nI C) hx hb hK hP 1 0 rfl rfl rfl dX1_fill_6 ?_
  refine lv_aload_n hx hb dX1_fill_7 rfl (lv_at hl 0 rfl) ?_
  refine va_get (D := (dC, dI)) (ci := 1) (v := .int (nI n)) (C := RX1) (T := TX1) (N := 9) hx hb hts hin_1 hown hK hP 0 rfl rfl 1 (by decide) k_2 (fun _ h9 => h9) rfl dX1_fill_8 ?_
  refine xr_isub hx hb dX1_fill_11 (by omega) ?_
  refine va_mmin hx hb (hml.trans hl.1.symm) hown k_3 k_4 k_5 k_6 (Nat.le_of_ble_eq_true rfl) (Nat.le_of_ble_eq_true rfl) (Nat.le_of_ble_eq_true rfl) (Nat.le_of_ble_eq_true rfl) dX1_fill_12 ?_
  refine va_mmax hx hb (hml.trans hl.1.symm) hown k_7 k_8 k_5 k_9 (Nat.le_of_ble_eq_true rfl) (Nat.le_of_ble_eq_true rfl) (Nat.le_of_ble_eq_true rfl) (Nat.le_of_ble_eq_true rfl) dX1_fill_15 ?_
  refine xr_top (y := nI (fcN x (C - n))) (fc_eq x (by omega)) ?_
  refine lv_istore (lv' := [(6, .int (nI (fcN x (C - n)))), (0, .ref o), (1, .int x), (2, .int key), (3, .int step), (4, .int m9), (5, .int tag)]) hx hb dX1_fill_18 hl (by decide) rfl (fun ls hl => ?_)
  refine lv_iconst (v := nI 0) hx hb dX1_fill_20 (by decide) ?_
  refine lv_istore (lv' := [(7, .int (nI 0)), (6, .int (nI (fcN x (C - n)))), (0, .ref o), (1, .int x), (2, .int key), (3, .int step), (4, .int m9), (5, .int tag)]) hx hb dX1_fill_21 hl (by decide) rfl (fun ls hl => ?_)
  have L_l : ∀ (kq : Nat) (i : Nat), (i ≤ fcN x (C - n)) → fcN x (C - n) - i < kq → ∀ (H : Heap) (locs : List Loc) (ls : Array Slot), va_P (dC, dI) vwCl [(o, .inr (1, [.ref oP, .int (nI n), .ref oA, .ref oL, .ref oR, .int (nI ru), .int (nI me), .long mp, .int (nI gh)])), (oP, .inl (cJ, C, .inr (.inl (flF f n key step m9 tag i))))] H → va_D A [(o, .inr (1, [.ref oP, .int (nI n), .ref oA, .ref oL, .ref oR, .int (nI ru), .int (nI me), .long mp, .int (nI gh)])), (oP, .inl (cJ, C, .inr (.inl (flF f n key step m9 tag i))))] → va_S A s.heap H locs → lv_has ls 9 [(7, .int (nI i)), (6, .int (nI (fcN x (C - n)))), (0, .ref o), (1, .int x), (2, .int key), (3, .int step), (4, .int m9), (5, .int tag)] → W p l e rmX1_fill s m args below meth c H locs 0 0 Q (F0 m 23 ls []) := by
    intro kq
    induction kq with
    | zero =>
      intro i h1 hm
      exact absurd hm (Nat.not_lt_zero _)
    | succ kq ih_l =>
      intro i h1 hm H locs ls hP hD hS hl
      refine lv_iload hx hb dX1_fill_23 (lv_at hl 0 rfl) ?_
      refine lv_iload hx hb dX1_fill_25 (lv_at hl 1 rfl) ?_
      refine xr_icmp_ge (tgt := 81) hx hb dX1_fill_27 (by decide) (by omega) (by omega) (fun c_27 => ?_) (fun c_27 => ?_)
      · have hi : i = fcN x (C - n) := by omega
        rw [hi] at hP hD
        refine lv_aload_n hx hb dX1_fill_81 rfl (lv_at hl 2 rfl) ?_
        refine lv_dup hx hb dX1_fill_82 rfl ?_
        refine va_get (D := (dC, dI)) (ci := 1) (v := .int (nI n)) (C := RX1) (T := TX1) (N := 9) hx hb hts hin_1 hown hK hP 0 rfl rfl 1 (by decide) k_2 (fun _ h9 => h9) rfl dX1_fill_83 ?_
        refine lv_iload hx hb dX1_fill_86 (lv_at hl 1 rfl) ?_
        refine xr_iadd hx hb dX1_fill_88 ?_
        refine va_put (D := (dC, dI)) (ci := 1) (v := .int (nI (n + (fcN x (C - n))))) (ty := .int) (C := RX1) (T := TX1) (N := 9) hx hb hts hin_1 tyX1 tyX1_ok nmX1 hown hK hP hD hS 0 rfl rfl 1 (by decide) k_2 (fun _ h9 => h9) rfl (by decide +kernel) rfl rfl (Nat.le_of_ble_eq_true rfl) dX1_fill_89 (fun H locs hP hD hS => ?_)
        have hP : va_P (dC, dI) vwCl [(o, .inr (1, [.ref oP, .int (nI (n + (fcN x (C - n)))), .ref oA, .ref oL, .ref oR, .int (nI ru), .int (nI me), .long mp, .int (nI gh)])), (oP, .inl (cJ, C, .inr (.inl (flF f n key step m9 tag (fcN x (C - n))))))] H := hP
        have hD : va_D A [(o, .inr (1, [.ref oP, .int (nI (n + (fcN x (C - n)))), .ref oA, .ref oL, .ref oR, .int (nI ru), .int (nI me), .long mp, .int (nI gh)])), (oP, .inl (cJ, C, .inr (.inl (flF f n key step m9 tag (fcN x (C - n))))))] := hD
        refine lv_iload hx hb dX1_fill_92 (lv_at hl 1 rfl) ?_
        exact hret () _ _ _ _ _ _ _ (rfl) hP hK hD hS (Nat.le_of_ble_eq_true rfl) (Nat.le_of_ble_eq_true rfl) (rfl) dX1_fill_94
      · refine lv_iload_n hx hb dX1_fill_30 rfl (lv_at hl 4 rfl) ?_
        refine lv_iload hx hb dX1_fill_31 (lv_at hl 0 rfl) ?_
        refine lv_iload_n hx hb dX1_fill_33 rfl (lv_at hl 5 rfl) ?_
        refine lv_imul hx hb dX1_fill_34 ?_
        refine lv_iadd hx hb dX1_fill_35 ?_
        refine lv_istore (lv' := [(8, .int (key + ((nI i) * step))), (7, .int (nI i)), (6, .int (nI (fcN x (C - n)))), (0, .ref o), (1, .int x), (2, .int key), (3, .int step), (4, .int m9), (5, .int tag)]) hx hb dX1_fill_36 hl (by decide) rfl (fun ls hl => ?_)
        refine lv_aload_n hx hb dX1_fill_38 rfl (lv_at hl 3 rfl) ?_
        refine va_get (D := (dC, dI)) (ci := 1) (v := .ref oP) (C := RX1) (T := TX1) (N := 9) hx hb hts hin_1 hown hK hP 0 rfl rfl 0 (by decide) k_1 (fun _ h9 => h9) rfl dX1_fill_39 ?_
        refine lv_aload_n hx hb dX1_fill_42 rfl (lv_at hl 3 rfl) ?_
        refine va_get (D := (dC, dI)) (ci := 1) (v := .int (nI n)) (C := RX1) (T := TX1) (N := 9) hx hb hts hin_1 hown hK hP 0 rfl rfl 1 (by decide) k_2 (fun _ h9 => h9) rfl dX1_fill_43 ?_
        refine lv_iload hx hb dX1_fill_46 (lv_at hl 1 rfl) ?_
        refine xr_iadd hx hb dX1_fill_48 ?_
        refine lv_iload hx hb dX1_fill_49 (lv_at hl 7 rfl) ?_
        refine lv_if_le (tgt := 64) hx hb dX1_fill_51 (by decide) (fun c_51 => ?_) (fun c_51 => ?_)
        · have hk9 : key + nI i * step = fkI key step m9 i := by unfold fkI; rw [if_neg (fun q => by have h1 := Int32.lt_iff_toInt_lt.mp q; have h2 := Int32.le_iff_toInt_le.mp c_51; omega)]
          refine lv_iload hx hb dX1_fill_64 (lv_at hl 0 rfl) ?_
          refine xr_top (y := fkI key step m9 i) (hk9) ?_
          refine lv_iload hx hb dX1_fill_66 (lv_at hl 8 rfl) ?_
          refine lv_iload hx hb dX1_fill_68 (lv_at hl 1 rfl) ?_
          refine lv_iadd hx hb dX1_fill_70 ?_
          refine call_S_L (As := [.int (fkI key step m9 i), .int (tag + (nI i))]) (rest := [.int (nI (n + i)), .ref oP]) (wr := [(o, .inr (1, [.ref oP, .int (nI n), .ref oA, .ref oL, .ref oR, .int (nI ru), .int (nI me), .long mp, .int (nI gh)])), (oP, .inl (cJ, C, .inr (.inl (flF f n key step m9 tag i))))]) ⟨hx, hb, hml, hown, hts⟩ (c_X1_pairOf l dC dI cJ cI (fkI key step m9 i) (tag + nI i)) (va_cwS 2 hts gX1_fill_X1_pairOf rfl rfl rfl (by decide +kernel) ⟨Nat.le_of_ble_eq_true rfl, Nat.le_of_ble_eq_true rfl⟩) hP hD hK hN hS hA [] [0, 1] [0, 1] rfl rfl rfl (by decide) (by decide) (by decide) rfl hl.1 rfl (Nat.le_of_ble_eq_true rfl) dX1_fill_71 (Nat.le_of_ble_eq_true rfl) (Nat.le_of_ble_eq_true rfl) (fun r_71 u_71 H locs hw_71 hP hD hK1 hS => ?_)
          refine W.widen (k := 0) (n := 0) (Nat.le_of_ble_eq_true rfl) (Nat.le_of_ble_eq_true rfl) ?_
          have hP : va_P (dC, dI) vwCl [(o, .inr (1, [.ref oP, .int (nI n), .ref oA, .ref oL, .ref oR, .int (nI ru), .int (nI me), .long mp, .int (nI gh)])), (oP, .inl (cJ, C, .inr (.inl (flF f n key step m9 tag i))))] H := ct_Psub hP [0, 1] rfl
          have hD : va_D A [(o, .inr (1, [.ref oP, .int (nI n), .ref oA, .ref oL, .ref oR, .int (nI ru), .int (nI me), .long mp, .int (nI gh)])), (oP, .inl (cJ, C, .inr (.inl (flF f n key step m9 tag i))))] := hD.sub [0, 1] (by decide) rfl
          refine xr_topl (y := prI (fkI key step m9 i) (tag + nI i)) (hw_71) ?_
          refine xr_last hx hb hK hP hD hS 1 0 rfl rfl (by omega) (by omega) dX1_fill_74 (fun H locs hP hD hS => ?_)
          have hP : va_P (dC, dI) vwCl [(o, .inr (1, [.ref oP, .int (nI n), .ref oA, .ref oL, .ref oR, .int (nI ru), .int (nI me), .long mp, .int (nI gh)])), (oP, .inl (cJ, C, .inr (.inl (uN_up (flF f n key step m9 tag i) (n + i) (prI (fkI key step m9 i) (tag + nI i))))))] H := hP
          have hD : va_D A [(o, .inr (1, [.ref oP, .int (nI n), .ref oA, .ref oL, .ref oR, .int (nI ru), .int (nI me), .long mp, .int (nI gh)])), (oP, .inl (cJ, C, .inr (.inl (uN_up (flF f n key step m9 tag i) (n + i) (prI (fkI key step m9 i) (tag + nI i))))))] := hD
          refine lv_iinc (v := nI (i + 1)) (lv' := [(7, .int (nI (i + 1))), (8, .int (key + ((nI i) * step))), (6, .int (nI (fcN x (C - n)))), (0, .ref o), (1, .int x), (2, .int key), (3, .int step), (4, .int m9), (5, .int tag)]) hx hb dX1_fill_75 hl (k := 1) rfl (nI_add i 1) (by decide) rfl (fun ls hl => ?_)
          refine lv_goto (tgt := 23) hx hb dX1_fill_78 (by decide) ?_
          exact ih_l (i + 1) (by omega) (by omega) _ _ _ (by rw [← flF_s]; exact hP) (by rw [← flF_s]; exact hD) hS (lv_sub hl [0, 2, 3, 4, 5, 6, 7, 8] rfl)
        · have hk9 : fmI (key + nI i * step) m9 = fkI key step m9 i := by unfold fkI; rw [if_pos (Int32.lt_iff_toInt_lt.mpr (Int.not_le.mp (fun q => c_51 (Int32.le_iff_toInt_le.mpr q))))]
          refine lv_iload hx hb dX1_fill_54 (lv_at hl 0 rfl) ?_
          refine lv_iload hx hb dX1_fill_56 (lv_at hl 7 rfl) ?_
          refine call_S_I (As := [.int (key + ((nI i) * step)), .int m9]) (rest := [.int (nI (n + i)), .ref oP]) (wr := [(o, .inr (1, [.ref oP, .int (nI n), .ref oA, .ref oL, .ref oR, .int (nI ru), .int (nI me), .long mp, .int (nI gh)])), (oP, .inl (cJ, C, .inr (.inl (flF f n key step m9 tag i))))]) ⟨hx, hb, hml, hown, hts⟩ (c_J9_floorMod_7cf53 l dC dI cJ cI (key + nI i * step) m9 (fun q => by rw [q] at c_51; exact c_51 (by decide))) (va_cwS 2 hts gX1_fill_J9_floorMod_7cf53 rfl rfl rfl (by decide +kernel) ⟨Nat.le_of_ble_eq_true rfl, Nat.le_of_ble_eq_true rfl⟩) hP hD hK hN hS hA [] [0, 1] [0, 1] rfl rfl rfl (by decide) (by decide) (by decide) rfl hl.1 rfl (Nat.le_of_ble_eq_true rfl) dX1_fill_58 (Nat.le_of_ble_eq_true rfl) (Nat.le_of_ble_eq_true rfl) (fun r_58 u_58 H locs hw_58 hP hD hK1 hS => ?_)
          refine W.widen (k := 0) (n := 0) (Nat.le_of_ble_eq_true rfl) (Nat.le_of_ble_eq_true rfl) ?_
          have hP : va_P (dC, dI) vwCl [(o, .inr (1, [.ref oP, .int (nI n), .ref oA, .ref oL, .ref oR, .int (nI ru), .int (nI me), .long mp, .int (nI gh)])), (oP, .inl (cJ, C, .inr (.inl (flF f n key step m9 tag i))))] H := ct_Psub hP [0, 1] rfl
          have hD : va_D A [(o, .inr (1, [.ref oP, .int (nI n), .ref oA, .ref oL, .ref oR, .int (nI ru), .int (nI me), .long mp, .int (nI gh)])), (oP, .inl (cJ, C, .inr (.inl (flF f n key step m9 tag i))))] := hD.sub [0, 1] (by decide) rfl
          refine xr_top (y := fmI (key + nI i * step) m9) (hw_58) ?_
          refine lv_goto (tgt := 66) hx hb dX1_fill_61 (by decide) ?_
          refine xr_top (y := fkI key step m9 i) (hk9) ?_
          refine lv_iload hx hb dX1_fill_66 (lv_at hl 8 rfl) ?_
          refine lv_iload hx hb dX1_fill_68 (lv_at hl 1 rfl) ?_
          refine lv_iadd hx hb dX1_fill_70 ?_
          refine call_S_L (As := [.int (fkI key step m9 i), .int (tag + (nI i))]) (rest := [.int (nI (n + i)), .ref oP]) (wr := [(o, .inr (1, [.ref oP, .int (nI n), .ref oA, .ref oL, .ref oR, .int (nI ru), .int (nI me), .long mp, .int (nI gh)])), (oP, .inl (cJ, C, .inr (.inl (flF f n key step m9 tag i))))]) ⟨hx, hb, hml, hown, hts⟩ (c_X1_pairOf l dC dI cJ cI (fkI key step m9 i) (tag + nI i)) (va_cwS 2 hts gX1_fill_X1_pairOf rfl rfl rfl (by decide +kernel) ⟨Nat.le_of_ble_eq_true rfl, Nat.le_of_ble_eq_true rfl⟩) hP hD hK hN hS hA [] [0, 1] [0, 1] rfl rfl rfl (by decide) (by decide) (by decide) rfl hl.1 rfl (Nat.le_of_ble_eq_true rfl) dX1_fill_71 (Nat.le_of_ble_eq_true rfl) (Nat.le_of_ble_eq_true rfl) (fun r_71 u_71 H locs hw_71 hP hD hK1 hS => ?_)
          refine W.widen (k := 0) (n := 0) (Nat.le_of_ble_eq_true rfl) (Nat.le_of_ble_eq_true rfl) ?_
          have hP : va_P (dC, dI) vwCl [(o, .inr (1, [.ref oP, .int (nI n), .ref oA, .ref oL, .ref oR, .int (nI ru), .int (nI me), .long mp, .int (nI gh)])), (oP, .inl (cJ, C, .inr (.inl (flF f n key step m9 tag i))))] H := ct_Psub hP [0, 1] rfl
          have hD : va_D A [(o, .inr (1, [.ref oP, .int (nI n), .ref oA, .ref oL, .ref oR, .int (nI ru), .int (nI me), .long mp, .int (nI gh)])), (oP, .inl (cJ, C, .inr (.inl (flF f n key step m9 tag i))))] := hD.sub [0, 1] (by decide) rfl
          refine xr_topl (y := prI (fkI key step m9 i) (tag + nI i)) (hw_71) ?_
          refine xr_last hx hb hK hP hD hS 1 0 rfl rfl (by omega) (by omega) dX1_fill_74 (fun H locs hP hD hS => ?_)
          have hP : va_P (dC, dI) vwCl [(o, .inr (1, [.ref oP, .int (nI n), .ref oA, .ref oL, .ref oR, .int (nI ru), .int (nI me), .long mp, .int (nI gh)])), (oP, .inl (cJ, C, .inr (.inl (uN_up (flF f n key step m9 tag i) (n + i) (prI (fkI key step m9 i) (tag + nI i))))))] H := hP
          have hD : va_D A [(o, .inr (1, [.ref oP, .int (nI n), .ref oA, .ref oL, .ref oR, .int (nI ru), .int (nI me), .long mp, .int (nI gh)])), (oP, .inl (cJ, C, .inr (.inl (uN_up (flF f n key step m9 tag i) (n + i) (prI (fkI key step m9 i) (tag + nI i))))))] := hD
          refine lv_iinc (v := nI (i + 1)) (lv' := [(7, .int (nI (i + 1))), (8, .int (key + ((nI i) * step))), (6, .int (nI (fcN x (C - n)))), (0, .ref o), (1, .int x), (2, .int key), (3, .int step), (4, .int m9), (5, .int tag)]) hx hb dX1_fill_75 hl (k := 1) rfl (nI_add i 1) (by decide) rfl (fun ls hl => ?_)
          refine lv_goto (tgt := 23) hx hb dX1_fill_78 (by decide) ?_
          exact ih_l (i + 1) (by omega) (by omega) _ _ _ (by rw [← flF_s]; exact hP) (by rw [← flF_s]; exact hD) hS (lv_sub hl [0, 2, 3, 4, 5, 6, 7, 8] rfl)
  exact L_l (_ + 1) 0 (Nat.zero_le _) (Nat.lt_succ_self _) _ _ _ (by rw [flF_0]; exact hP) (by rw [flF_0]; exact hD) hS (lv_sub hl [0, 1, 2, 3, 4, 5, 6, 7] rfl)
abbrev rmX1_turn : Room := { frames := 1, cells := 0, slots := 0, locals := 26 }
set_option maxRecDepth 100000 in
set_option maxHeartbeats 4000000 in
theorem c_X1_turn (l : Launch) (dC : Nat → ClassId) (dI : Nat → Nat → Nat) (cJ cI : ClassId) (o oP oA oL oR C n ru me gh : Nat) (mp : Int64) (f : Nat → Int64) (i k : Int32) (hn : n ≤ C) (hC : C ≤ 4096) : CI l yX1_turn wsX1_turn rmX1_turn [.ref o, .int i, .int k] (dC, dI) vwCl (KT cJ cI) [(o, .inr (1, [.ref oP, .int (nI n), .ref oA, .ref oL, .ref oR, .int (nI ru), .int (nI me), .long mp, .int (nI gh)])), (oP, .inl (cJ, C, .inr (.inl f)))] (S := Nat → Int64) (fun r u => (∃ a b : Nat, a + b ≤ n ∧ i = nI a ∧ k = nI b ∧ r = nI b ∧ u = trF f a b) ∨ (¬ trC i k n ∧ r = nI 0 ∧ u = f)) (fun _ => KT cJ cI) (fun u => [(o, .inr (1, [.ref oP, .int (nI n), .ref oA, .ref oL, .ref oR, .int (nI ru), .int (nI me), .long mp, .int (nI gh)])), (oP, .inl (cJ, C, .inr (.inl u)))]) := by
  refine CI.mk (by decide) rfl (Nat.le_of_ble_eq_true rfl) ?_
  intro p e s m args below meth c A Q ls hx hb hml hown hts hA hS hP hD hK hN hl hret
  have hl : lv_has ls 3 [(0, .ref o), (1, .int i), (2, .int k)] := hl
  have hin_1 : ∀ w ∈ u_ws RX1 TX1 9, w ∈ wsX1_turn := by decide +kernel
  have k_1 := hts (Cond.fieldLink RX1 38 "PairSorter" "size" "I") (by decide +kernel)
  refine lv_iload_n hx hb dX1_turn_0 rfl (lv_at hl 1 rfl) ?_
  refine lv_if_lt (tgt := 18) hx hb dX1_turn_1 (by decide) (fun c_1 => ?_) (fun c_1 => ?_)
  · have hno : ¬ trC i k n := by rintro ⟨a, b, h1, rfl, rfl⟩; exact nI_pos (by omega) c_1
    refine lv_iconst (v := nI 0) hx hb dX1_turn_18 (by decide) ?_
    exact hret f _ _ _ _ _ _ _ (Or.inr ⟨hno, rfl, rfl⟩) hP hK hD hS (Nat.le_of_ble_eq_true rfl) (Nat.le_of_ble_eq_true rfl) (rfl) dX1_turn_19
  · obtain ⟨a1, ha1, rfl⟩ := nI_of c_1
    refine lv_iload_n hx hb dX1_turn_4 rfl (lv_at hl 2 rfl) ?_
    refine lv_if_lt (tgt := 18) hx hb dX1_turn_5 (by decide) (fun c_5 => ?_) (fun c_5 => ?_)
    · have hno : ¬ trC (nI a1) k n := by rintro ⟨a2, b, h1, h2, rfl⟩; exact nI_pos (by omega) c_5
      refine lv_iconst (v := nI 0) hx hb dX1_turn_18 (by decide) ?_
      exact hret f _ _ _ _ _ _ _ (Or.inr ⟨hno, rfl, rfl⟩) hP hK hD hS (Nat.le_of_ble_eq_true rfl) (Nat.le_of_ble_eq_true rfl) (rfl) dX1_turn_19
    · obtain ⟨b1, hb1, rfl⟩ := nI_of c_5
      refine lv_iload_n hx hb dX1_turn_8 rfl (lv_at hl 1 rfl) ?_
      refine lv_aload_n hx hb dX1_turn_9 rfl (lv_at hl 0 rfl) ?_
      refine va_get (D := (dC, dI)) (ci := 1) (v := .int (nI n)) (C := RX1) (T := TX1) (N := 9) hx hb hts hin_1 hown hK hP 0 rfl rfl 1 (by decide) k_1 (fun _ h9 => h9) rfl dX1_turn_10 ?_
      refine lv_iload_n hx hb dX1_turn_13 rfl (lv_at hl 2 rfl) ?_
      refine lv_isub hx hb dX1_turn_14 ?_
      refine xz_icmp_le (tgt := 20) hx hb dX1_turn_15 (by decide) (zN ha1) (zS (a := n) (b := b1) (by omega) hb1) (fun c_15 => ?_) (fun c_15 => ?_)
      · refine lv_aload_n hx hb dX1_turn_20 rfl (lv_at hl 0 rfl) ?_
        refine lv_iload_n hx hb dX1_turn_21 rfl (lv_at hl 1 rfl) ?_
        refine lv_iload_n hx hb dX1_turn_22 rfl (lv_at hl 2 rfl) ?_
        refine call_V_V (As := [.int (nI a1), .int (nI b1)]) (rest := []) (wr := []) ⟨hx, hb, hml, hown, hts⟩ (c_X1_turnRound l dC dI cJ cI o oP oA oL oR C n ru me gh mp f a1 b1 (by omega) hC) (cwV 2 hts gX1_turn_X1_turnRound rfl rfl rfl (by decide +kernel) ⟨Nat.le_of_ble_eq_true rfl, Nat.le_of_ble_eq_true rfl⟩) hP hD hK hN hS hA [0, 1] [] [0, 1] rfl rfl rfl (by decide) (by decide) (by decide) 0 1 rfl rfl rfl rfl hl.1 rfl (Nat.le_of_ble_eq_true rfl) dX1_turn_23 (Nat.le_of_ble_eq_true rfl) (Nat.le_of_ble_eq_true rfl) (fun u_23 H locs hw_23 hP hD hK1 hS => ?_)
        refine W.widen (k := 0) (n := 0) (Nat.le_of_ble_eq_true rfl) (Nat.le_of_ble_eq_true rfl) ?_
        have hP : va_P (dC, dI) vwCl [(o, .inr (1, [.ref oP, .int (nI n), .ref oA, .ref oL, .ref oR, .int (nI ru), .int (nI me), .long mp, .int (nI gh)])), (oP, .inl (cJ, C, .inr (.inl (trF f a1 b1))))] H := ct_Psub hP [0, 1] rfl
        have hD : va_D A [(o, .inr (1, [.ref oP, .int (nI n), .ref oA, .ref oL, .ref oR, .int (nI ru), .int (nI me), .long mp, .int (nI gh)])), (oP, .inl (cJ, C, .inr (.inl (trF f a1 b1))))] := hD.sub [0, 1] (by decide) rfl
        refine lv_iload_n hx hb dX1_turn_26 rfl (lv_at hl 2 rfl) ?_
        exact hret (trF f a1 b1) _ _ _ _ _ _ _ (Or.inl ⟨a1, b1, by omega, rfl, rfl, rfl, rfl⟩) hP hK hD hS (Nat.le_of_ble_eq_true rfl) (Nat.le_of_ble_eq_true rfl) (rfl) dX1_turn_27
      · have hno : ¬ trC (nI a1) (nI b1) n := by
          rintro ⟨a2, b2, h1, h2, h3⟩
          have e1 := (nI_eq ha1 (by omega)).mp h2
          have e2 := (nI_eq hb1 (by omega)).mp h3
          omega
        refine lv_iconst (v := nI 0) hx hb dX1_turn_18 (by decide) ?_
        exact hret f _ _ _ _ _ _ _ (Or.inr ⟨hno, rfl, rfl⟩) hP hK hD hS (Nat.le_of_ble_eq_true rfl) (Nat.le_of_ble_eq_true rfl) (rfl) dX1_turn_19
abbrev rmX1_keyAt : Room := { frames := 1, cells := 0, slots := 0, locals := 21 }
set_option maxRecDepth 100000 in
set_option maxHeartbeats 4000000 in
theorem c_X1_keyAt (l : Launch) (dC : Nat → ClassId) (dI : Nat → Nat → Nat) (cJ cI : ClassId) (o oP oA oL oR C n ru me gh : Nat) (mp : Int64) (f : Nat → Int64) (i : Int32) (hn : n ≤ C) (hC : C ≤ 4096) : CI l yX1_keyAt wsX1_keyAt rmX1_keyAt [.ref o, .int i] (dC, dI) vwCl (KT cJ cI) [(o, .inr (1, [.ref oP, .int (nI n), .ref oA, .ref oL, .ref oR, .int (nI ru), .int (nI me), .long mp, .int (nI gh)])), (oP, .inl (cJ, C, .inr (.inl f)))] (S := Unit) (fun r _ => r = atV (fun j => kyI (f j)) i n) (fun _ => KT cJ cI) (fun _ => [(o, .inr (1, [.ref oP, .int (nI n), .ref oA, .ref oL, .ref oR, .int (nI ru), .int (nI me), .long mp, .int (nI gh)])), (oP, .inl (cJ, C, .inr (.inl f)))]) := by
  refine CI.mk (by decide) rfl (Nat.le_of_ble_eq_true rfl) ?_
  intro p e s m args below meth c A Q ls hx hb hml hown hts hA hS hP hD hK hN hl hret
  have hl : lv_has ls 2 [(0, .ref o), (1, .int i)] := hl
  have hin_1 : ∀ w ∈ u_ws RX1 TX1 9, w ∈ wsX1_keyAt := by decide +kernel
  have k_1 := hts (Cond.fieldLink RX1 18 "PairSorter" "pairs" "[J") (by decide +kernel)
  refine lv_aload_n hx hb dX1_keyAt_0 rfl (lv_at hl 0 rfl) ?_
  refine lv_iload_n hx hb dX1_keyAt_1 rfl (lv_at hl 1 rfl) ?_
  refine call_V_I (As := [.int i]) (rest := []) (wr := [(oP, .inl (cJ, C, .inr (.inl f)))]) ⟨hx, hb, hml, hown, hts⟩ (c_X1_isPlace l dC dI cJ cI o oP oA oL oR n ru me gh mp i (by omega)) (cwV 1 hts gX1_keyAt_X1_isPlace rfl rfl rfl (by decide +kernel) ⟨Nat.le_of_ble_eq_true rfl, Nat.le_of_ble_eq_true rfl⟩) hP hD hK hN hS hA [0] [1] [0, 1] rfl rfl rfl (by decide) (by decide) (by decide) 0 1 rfl rfl rfl rfl hl.1 rfl (Nat.le_of_ble_eq_true rfl) dX1_keyAt_2 (Nat.le_of_ble_eq_true rfl) (Nat.le_of_ble_eq_true rfl) (fun r_2 u_2 H locs hw_2 hP hD hK1 hS => ?_)
  refine W.widen (k := 0) (n := 0) (Nat.le_of_ble_eq_true rfl) (Nat.le_of_ble_eq_true rfl) ?_
  have hP : va_P (dC, dI) vwCl [(o, .inr (1, [.ref oP, .int (nI n), .ref oA, .ref oL, .ref oR, .int (nI ru), .int (nI me), .long mp, .int (nI gh)])), (oP, .inl (cJ, C, .inr (.inl f)))] H := ct_Psub hP [1, 0] rfl
  have hD : va_D A [(o, .inr (1, [.ref oP, .int (nI n), .ref oA, .ref oL, .ref oR, .int (nI ru), .int (nI me), .long mp, .int (nI gh)])), (oP, .inl (cJ, C, .inr (.inl f)))] := hD.sub [1, 0] (by decide) rfl
  rcases hw_2 with ⟨rfl, j, hj, rfl⟩ | ⟨rfl, hno⟩
  · refine xr_if_eq (tgt := 20) hx hb dX1_keyAt_5 (by decide) (by decide) (fun c9 => absurd c9 (by decide)) (fun _ => ?_)
    refine lv_aload_n hx hb dX1_keyAt_8 rfl (lv_at hl 0 rfl) ?_
    refine va_get (D := (dC, dI)) (ci := 1) (v := .ref oP) (C := RX1) (T := TX1) (N := 9) hx hb hts hin_1 hown hK hP 0 rfl rfl 0 (by decide) k_1 (fun _ h9 => h9) rfl dX1_keyAt_9 ?_
    refine lv_iload_n hx hb dX1_keyAt_12 rfl (lv_at hl 1 rfl) ?_
    refine xr_lald hx hb hK hP 1 0 rfl rfl (by omega) (by omega) dX1_keyAt_13 ?_
    refine call_S_I (As := [.long (f j)]) (rest := []) (wr := [(o, .inr (1, [.ref oP, .int (nI n), .ref oA, .ref oL, .ref oR, .int (nI ru), .int (nI me), .long mp, .int (nI gh)])), (oP, .inl (cJ, C, .inr (.inl f)))]) ⟨hx, hb, hml, hown, hts⟩ (c_X1_keyOf l dC dI cJ cI (f j)) (va_cwS 1 hts gX1_keyAt_X1_keyOf rfl rfl rfl (by decide +kernel) ⟨Nat.le_of_ble_eq_true rfl, Nat.le_of_ble_eq_true rfl⟩) hP hD hK hN hS hA [] [0, 1] [0, 1] rfl rfl rfl (by decide) (by decide) (by decide) rfl hl.1 rfl (Nat.le_of_ble_eq_true rfl) dX1_keyAt_14 (Nat.le_of_ble_eq_true rfl) (Nat.le_of_ble_eq_true rfl) (fun r_14 u_14 H locs hw_14 hP hD hK1 hS => ?_)
    refine W.widen (k := 0) (n := 0) (Nat.le_of_ble_eq_true rfl) (Nat.le_of_ble_eq_true rfl) ?_
    have hP : va_P (dC, dI) vwCl [(o, .inr (1, [.ref oP, .int (nI n), .ref oA, .ref oL, .ref oR, .int (nI ru), .int (nI me), .long mp, .int (nI gh)])), (oP, .inl (cJ, C, .inr (.inl f)))] H := ct_Psub hP [0, 1] rfl
    have hD : va_D A [(o, .inr (1, [.ref oP, .int (nI n), .ref oA, .ref oL, .ref oR, .int (nI ru), .int (nI me), .long mp, .int (nI gh)])), (oP, .inl (cJ, C, .inr (.inl f)))] := hD.sub [0, 1] (by decide) rfl
    refine xr_top (y := kyI (f j)) (hw_14) ?_
    refine lv_goto (tgt := 21) hx hb dX1_keyAt_17 (by decide) ?_
    exact hret () _ _ _ _ _ _ _ (atV_in (g := fun j => kyI (f j)) hj (by omega)) hP hK hD hS (Nat.le_of_ble_eq_true rfl) (Nat.le_of_ble_eq_true rfl) (rfl) dX1_keyAt_21
  · refine xr_if_eq (tgt := 20) hx hb dX1_keyAt_5 (by decide) (by decide) (fun _ => ?_) (fun c9 => absurd c9 (by decide))
    refine lv_iconst (v := nI 0) hx hb dX1_keyAt_20 (by decide) ?_
    exact hret () _ _ _ _ _ _ _ (atV_out (by omega) hno) hP hK hD hS (Nat.le_of_ble_eq_true rfl) (Nat.le_of_ble_eq_true rfl) (rfl) dX1_keyAt_21
abbrev rmX1_tagAt : Room := { frames := 1, cells := 0, slots := 0, locals := 21 }
set_option maxRecDepth 100000 in
set_option maxHeartbeats 4000000 in
theorem c_X1_tagAt (l : Launch) (dC : Nat → ClassId) (dI : Nat → Nat → Nat) (cJ cI : ClassId) (o oP oA oL oR C n ru me gh : Nat) (mp : Int64) (f : Nat → Int64) (i : Int32) (hn : n ≤ C) (hC : C ≤ 4096) : CI l yX1_tagAt wsX1_tagAt rmX1_tagAt [.ref o, .int i] (dC, dI) vwCl (KT cJ cI) [(o, .inr (1, [.ref oP, .int (nI n), .ref oA, .ref oL, .ref oR, .int (nI ru), .int (nI me), .long mp, .int (nI gh)])), (oP, .inl (cJ, C, .inr (.inl f)))] (S := Unit) (fun r _ => r = atV (fun j => tgI (f j)) i n) (fun _ => KT cJ cI) (fun _ => [(o, .inr (1, [.ref oP, .int (nI n), .ref oA, .ref oL, .ref oR, .int (nI ru), .int (nI me), .long mp, .int (nI gh)])), (oP, .inl (cJ, C, .inr (.inl f)))]) := by
  refine CI.mk (by decide) rfl (Nat.le_of_ble_eq_true rfl) ?_
  intro p e s m args below meth c A Q ls hx hb hml hown hts hA hS hP hD hK hN hl hret
  have hl : lv_has ls 2 [(0, .ref o), (1, .int i)] := hl
  have hin_1 : ∀ w ∈ u_ws RX1 TX1 9, w ∈ wsX1_tagAt := by decide +kernel
  have k_1 := hts (Cond.fieldLink RX1 18 "PairSorter" "pairs" "[J") (by decide +kernel)
  refine lv_aload_n hx hb dX1_tagAt_0 rfl (lv_at hl 0 rfl) ?_
  refine lv_iload_n hx hb dX1_tagAt_1 rfl (lv_at hl 1 rfl) ?_
  refine call_V_I (As := [.int i]) (rest := []) (wr := [(oP, .inl (cJ, C, .inr (.inl f)))]) ⟨hx, hb, hml, hown, hts⟩ (c_X1_isPlace l dC dI cJ cI o oP oA oL oR n ru me gh mp i (by omega)) (cwV 1 hts gX1_tagAt_X1_isPlace rfl rfl rfl (by decide +kernel) ⟨Nat.le_of_ble_eq_true rfl, Nat.le_of_ble_eq_true rfl⟩) hP hD hK hN hS hA [0] [1] [0, 1] rfl rfl rfl (by decide) (by decide) (by decide) 0 1 rfl rfl rfl rfl hl.1 rfl (Nat.le_of_ble_eq_true rfl) dX1_tagAt_2 (Nat.le_of_ble_eq_true rfl) (Nat.le_of_ble_eq_true rfl) (fun r_2 u_2 H locs hw_2 hP hD hK1 hS => ?_)
  refine W.widen (k := 0) (n := 0) (Nat.le_of_ble_eq_true rfl) (Nat.le_of_ble_eq_true rfl) ?_
  have hP : va_P (dC, dI) vwCl [(o, .inr (1, [.ref oP, .int (nI n), .ref oA, .ref oL, .ref oR, .int (nI ru), .int (nI me), .long mp, .int (nI gh)])), (oP, .inl (cJ, C, .inr (.inl f)))] H := ct_Psub hP [1, 0] rfl
  have hD : va_D A [(o, .inr (1, [.ref oP, .int (nI n), .ref oA, .ref oL, .ref oR, .int (nI ru), .int (nI me), .long mp, .int (nI gh)])), (oP, .inl (cJ, C, .inr (.inl f)))] := hD.sub [1, 0] (by decide) rfl
  rcases hw_2 with ⟨rfl, j, hj, rfl⟩ | ⟨rfl, hno⟩
  · refine xr_if_eq (tgt := 20) hx hb dX1_tagAt_5 (by decide) (by decide) (fun c9 => absurd c9 (by decide)) (fun _ => ?_)
    refine lv_aload_n hx hb dX1_tagAt_8 rfl (lv_at hl 0 rfl) ?_
    refine va_get (D := (dC, dI)) (ci := 1) (v := .ref oP) (C := RX1) (T := TX1) (N := 9) hx hb hts hin_1 hown hK hP 0 rfl rfl 0 (by decide) k_1 (fun _ h9 => h9) rfl dX1_tagAt_9 ?_
    refine lv_iload_n hx hb dX1_tagAt_12 rfl (lv_at hl 1 rfl) ?_
    refine xr_lald hx hb hK hP 1 0 rfl rfl (by omega) (by omega) dX1_tagAt_13 ?_
    refine call_S_I (As := [.long (f j)]) (rest := []) (wr := [(o, .inr (1, [.ref oP, .int (nI n), .ref oA, .ref oL, .ref oR, .int (nI ru), .int (nI me), .long mp, .int (nI gh)])), (oP, .inl (cJ, C, .inr (.inl f)))]) ⟨hx, hb, hml, hown, hts⟩ (c_X1_tagOf l dC dI cJ cI (f j)) (va_cwS 1 hts gX1_tagAt_X1_tagOf rfl rfl rfl (by decide +kernel) ⟨Nat.le_of_ble_eq_true rfl, Nat.le_of_ble_eq_true rfl⟩) hP hD hK hN hS hA [] [0, 1] [0, 1] rfl rfl rfl (by decide) (by decide) (by decide) rfl hl.1 rfl (Nat.le_of_ble_eq_true rfl) dX1_tagAt_14 (Nat.le_of_ble_eq_true rfl) (Nat.le_of_ble_eq_true rfl) (fun r_14 u_14 H locs hw_14 hP hD hK1 hS => ?_)
    refine W.widen (k := 0) (n := 0) (Nat.le_of_ble_eq_true rfl) (Nat.le_of_ble_eq_true rfl) ?_
    have hP : va_P (dC, dI) vwCl [(o, .inr (1, [.ref oP, .int (nI n), .ref oA, .ref oL, .ref oR, .int (nI ru), .int (nI me), .long mp, .int (nI gh)])), (oP, .inl (cJ, C, .inr (.inl f)))] H := ct_Psub hP [0, 1] rfl
    have hD : va_D A [(o, .inr (1, [.ref oP, .int (nI n), .ref oA, .ref oL, .ref oR, .int (nI ru), .int (nI me), .long mp, .int (nI gh)])), (oP, .inl (cJ, C, .inr (.inl f)))] := hD.sub [0, 1] (by decide) rfl
    refine xr_top (y := tgI (f j)) (hw_14) ?_
    refine lv_goto (tgt := 21) hx hb dX1_tagAt_17 (by decide) ?_
    exact hret () _ _ _ _ _ _ _ (atV_in (g := fun j => tgI (f j)) hj (by omega)) hP hK hD hS (Nat.le_of_ble_eq_true rfl) (Nat.le_of_ble_eq_true rfl) (rfl) dX1_tagAt_21
  · refine xr_if_eq (tgt := 20) hx hb dX1_tagAt_5 (by decide) (by decide) (fun _ => ?_) (fun c9 => absurd c9 (by decide))
    refine lv_iconst (v := nI 0) hx hb dX1_tagAt_20 (by decide) ?_
    exact hret () _ _ _ _ _ _ _ (atV_out (by omega) hno) hP hK hD hS (Nat.le_of_ble_eq_true rfl) (Nat.le_of_ble_eq_true rfl) (rfl) dX1_tagAt_21
abbrev rmX1_sorted : Room := { frames := 3, cells := 0, slots := 0, locals := 64 }
set_option maxRecDepth 100000 in
set_option maxHeartbeats 4000000 in
theorem c_X1_sorted (l : Launch) (dC : Nat → ClassId) (dI : Nat → Nat → Nat) (cJ cI : ClassId) (o oP oA oL oR C n ru me gh : Nat) (mp : Int64) (f : Nat → Int64) (i : Int32) (hn : n ≤ C) (hC : C ≤ 4096) : CI l yX1_sorted wsX1_sorted rmX1_sorted [.ref o, .int i] (dC, dI) vwCl (KT cJ cI) [(o, .inr (1, [.ref oP, .int (nI n), .ref oA, .ref oL, .ref oR, .int (nI ru), .int (nI me), .long mp, .int (nI gh)])), (oP, .inl (cJ, C, .inr (.inl f)))] (S := Unit) (fun r _ => r = atV (fun j => nI (1 + cnt (nfl (kf f)) (j + 1) (n - (j + 1)))) i n) (fun _ => KT cJ cI) (fun _ => [(o, .inr (1, [.ref oP, .int (nI n), .ref oA, .ref oL, .ref oR, .int (nI ru), .int (nI me), .long mp, .int (nI gh)])), (oP, .inl (cJ, C, .inr (.inl f)))]) := by
  refine CI.mk (by decide) rfl (Nat.le_of_ble_eq_true rfl) ?_
  intro p e s m args below meth c A Q ls hx hb hml hown hts hA hS hP hD hK hN hl hret
  have hl : lv_has ls 2 [(0, .ref o), (1, .int i)] := hl
  refine lv_aload_n hx hb dX1_sorted_0 rfl (lv_at hl 0 rfl) ?_
  refine lv_iload_n hx hb dX1_sorted_1 rfl (lv_at hl 1 rfl) ?_
  refine call_V_I (As := [.int i]) (rest := []) (wr := [(oP, .inl (cJ, C, .inr (.inl f)))]) ⟨hx, hb, hml, hown, hts⟩ (c_X1_isPlace l dC dI cJ cI o oP oA oL oR n ru me gh mp i (by omega)) (cwV 1 hts gX1_sorted_X1_isPlace rfl rfl rfl (by decide +kernel) ⟨Nat.le_of_ble_eq_true rfl, Nat.le_of_ble_eq_true rfl⟩) hP hD hK hN hS hA [0] [1] [0, 1] rfl rfl rfl (by decide) (by decide) (by decide) 0 1 rfl rfl rfl rfl hl.1 rfl (Nat.le_of_ble_eq_true rfl) dX1_sorted_2 (Nat.le_of_ble_eq_true rfl) (Nat.le_of_ble_eq_true rfl) (fun r_2 u_2 H locs hw_2 hP hD hK1 hS => ?_)
  refine W.widen (k := 0) (n := 0) (Nat.le_of_ble_eq_true rfl) (Nat.le_of_ble_eq_true rfl) ?_
  have hP : va_P (dC, dI) vwCl [(o, .inr (1, [.ref oP, .int (nI n), .ref oA, .ref oL, .ref oR, .int (nI ru), .int (nI me), .long mp, .int (nI gh)])), (oP, .inl (cJ, C, .inr (.inl f)))] H := ct_Psub hP [1, 0] rfl
  have hD : va_D A [(o, .inr (1, [.ref oP, .int (nI n), .ref oA, .ref oL, .ref oR, .int (nI ru), .int (nI me), .long mp, .int (nI gh)])), (oP, .inl (cJ, C, .inr (.inl f)))] := hD.sub [1, 0] (by decide) rfl
  rcases hw_2 with ⟨rfl, j, hj, rfl⟩ | ⟨rfl, hno⟩
  · refine xr_if_eq (tgt := 16) hx hb dX1_sorted_5 (by decide) (by decide) (fun c9 => absurd c9 (by decide)) (fun _ => ?_)
    refine lv_aload_n hx hb dX1_sorted_8 rfl (lv_at hl 0 rfl) ?_
    refine lv_iload_n hx hb dX1_sorted_9 rfl (lv_at hl 1 rfl) ?_
    refine call_V_I (As := [.int (nI j)]) (rest := []) (wr := []) ⟨hx, hb, hml, hown, hts⟩ (c_X1_countNotFalling l dC dI cJ cI o oP oA oL oR C n ru me gh mp f j hj hn hC) (cwV 1 hts gX1_sorted_X1_countNotFalling rfl rfl rfl (by decide +kernel) ⟨Nat.le_of_ble_eq_true rfl, Nat.le_of_ble_eq_true rfl⟩) hP hD hK hN hS hA [0, 1] [] [0, 1] rfl rfl rfl (by decide) (by decide) (by decide) 0 1 rfl rfl rfl rfl hl.1 rfl (Nat.le_of_ble_eq_true rfl) dX1_sorted_10 (Nat.le_of_ble_eq_true rfl) (Nat.le_of_ble_eq_true rfl) (fun r_10 u_10 H locs hw_10 hP hD hK1 hS => ?_)
    refine W.widen (k := 0) (n := 0) (Nat.le_of_ble_eq_true rfl) (Nat.le_of_ble_eq_true rfl) ?_
    have hP : va_P (dC, dI) vwCl [(o, .inr (1, [.ref oP, .int (nI n), .ref oA, .ref oL, .ref oR, .int (nI ru), .int (nI me), .long mp, .int (nI gh)])), (oP, .inl (cJ, C, .inr (.inl f)))] H := ct_Psub hP [0, 1] rfl
    have hD : va_D A [(o, .inr (1, [.ref oP, .int (nI n), .ref oA, .ref oL, .ref oR, .int (nI ru), .int (nI me), .long mp, .int (nI gh)])), (oP, .inl (cJ, C, .inr (.inl f)))] := hD.sub [0, 1] (by decide) rfl
    refine xr_top (y := nI (1 + cnt (nfl (kf f)) (j + 1) (n - (j + 1)))) (hw_10) ?_
    refine lv_goto (tgt := 17) hx hb dX1_sorted_13 (by decide) ?_
    exact hret () _ _ _ _ _ _ _ (atV_in (g := fun j => nI (1 + cnt (nfl (kf f)) (j + 1) (n - (j + 1)))) hj (by omega)) hP hK hD hS (Nat.le_of_ble_eq_true rfl) (Nat.le_of_ble_eq_true rfl) (rfl) dX1_sorted_17
  · refine xr_if_eq (tgt := 16) hx hb dX1_sorted_5 (by decide) (by decide) (fun _ => ?_) (fun c9 => absurd c9 (by decide))
    refine lv_iconst (v := nI 0) hx hb dX1_sorted_16 (by decide) ?_
    exact hret () _ _ _ _ _ _ _ (atV_out (by omega) hno) hP hK hD hS (Nat.le_of_ble_eq_true rfl) (Nat.le_of_ble_eq_true rfl) (rfl) dX1_sorted_17
abbrev rmX1_size : Room := { frames := 0, cells := 0, slots := 0, locals := 0 }
set_option maxRecDepth 100000 in
set_option maxHeartbeats 4000000 in
theorem c_X1_size (l : Launch) (dC : Nat → ClassId) (dI : Nat → Nat → Nat) (cJ cI : ClassId) (o oP oA oL oR n ru me gh : Nat) (mp : Int64)  : CI l yX1_size wsX1_size rmX1_size [.ref o] (dC, dI) vwCl (KT cJ cI) [(o, .inr (1, [.ref oP, .int (nI n), .ref oA, .ref oL, .ref oR, .int (nI ru), .int (nI me), .long mp, .int (nI gh)]))] (S := Unit) (fun r _ => r = nI n) (fun _ => KT cJ cI) (fun _ => [(o, .inr (1, [.ref oP, .int (nI n), .ref oA, .ref oL, .ref oR, .int (nI ru), .int (nI me), .long mp, .int (nI gh)]))]) := by
  refine CI.mk (by decide) rfl (Nat.le_of_ble_eq_true rfl) ?_
  intro p e s m args below meth c A Q ls hx hb hml hown hts hA hS hP hD hK hN hl hret
  have hl : lv_has ls 1 [(0, .ref o)] := hl
  have hin_1 : ∀ w ∈ u_ws RX1 TX1 9, w ∈ wsX1_size := by decide +kernel
  have k_1 := hts (Cond.fieldLink RX1 38 "PairSorter" "size" "I") (by decide +kernel)
  refine lv_aload_n hx hb dX1_size_0 rfl (lv_at hl 0 rfl) ?_
  refine va_get (D := (dC, dI)) (ci := 1) (v := .int (nI n)) (C := RX1) (T := TX1) (N := 9) hx hb hts hin_1 hown hK hP 0 rfl rfl 1 (by decide) k_1 (fun _ h9 => h9) rfl dX1_size_1 ?_
  exact hret () _ _ _ _ _ _ _ (rfl) hP hK hD hS (Nat.le_of_ble_eq_true rfl) (Nat.le_of_ble_eq_true rfl) (rfl) dX1_size_4
abbrev rmX1_stackHigh : Room := { frames := 0, cells := 0, slots := 0, locals := 0 }
set_option maxRecDepth 100000 in
set_option maxHeartbeats 4000000 in
theorem c_X1_stackHigh (l : Launch) (dC : Nat → ClassId) (dI : Nat → Nat → Nat) (cJ cI : ClassId) (o oP oA oL oR n ru me gh : Nat) (mp : Int64)  : CI l yX1_stackHigh wsX1_stackHigh rmX1_stackHigh [.ref o] (dC, dI) vwCl (KT cJ cI) [(o, .inr (1, [.ref oP, .int (nI n), .ref oA, .ref oL, .ref oR, .int (nI ru), .int (nI me), .long mp, .int (nI gh)]))] (S := Unit) (fun r _ => r = nI gh) (fun _ => KT cJ cI) (fun _ => [(o, .inr (1, [.ref oP, .int (nI n), .ref oA, .ref oL, .ref oR, .int (nI ru), .int (nI me), .long mp, .int (nI gh)]))]) := by
  refine CI.mk (by decide) rfl (Nat.le_of_ble_eq_true rfl) ?_
  intro p e s m args below meth c A Q ls hx hb hml hown hts hA hS hP hD hK hN hl hret
  have hl : lv_has ls 1 [(0, .ref o)] := hl
  have hin_1 : ∀ w ∈ u_ws RX1 TX1 9, w ∈ wsX1_stackHigh := by decide +kernel
  have k_1 := hts (Cond.fieldLink RX1 75 "PairSorter" "greatestHeight" "I") (by decide +kernel)
  refine lv_aload_n hx hb dX1_stackHigh_0 rfl (lv_at hl 0 rfl) ?_
  refine va_get (D := (dC, dI)) (ci := 1) (v := .int (nI gh)) (C := RX1) (T := TX1) (N := 9) hx hb hts hin_1 hown hK hP 0 rfl rfl 8 (by decide) k_1 (fun _ h9 => h9) rfl dX1_stackHigh_1 ?_
  exact hret () _ _ _ _ _ _ _ (rfl) hP hK hD hS (Nat.le_of_ble_eq_true rfl) (Nat.le_of_ble_eq_true rfl) (rfl) dX1_stackHigh_4
abbrev rmX1_work : Room := { frames := 0, cells := 0, slots := 0, locals := 0 }
set_option maxRecDepth 100000 in
set_option maxHeartbeats 4000000 in
theorem c_X1_work (l : Launch) (dC : Nat → ClassId) (dI : Nat → Nat → Nat) (cJ cI : ClassId) (o oP oA oL oR n ru me gh : Nat) (mp : Int64) (M : Nat) (rl : Nat → Nat) (wh i : Int32) (hr : ru ≤ M) (hM : M < 2 ^ 30) : CL l yX1_work wsX1_work rmX1_work [.ref o, .int wh, .int i] (dC, dI) vwCl (KT cJ cI) [(o, .inr (1, [.ref oP, .int (nI n), .ref oA, .ref oL, .ref oR, .int (nI ru), .int (nI me), .long mp, .int (nI gh)])), (oR, .inl (cI, M, .inl (fun j => nI (rl j))))] (S := Unit) (fun r _ => r = wkV wh i ru rl me mp) (fun _ => KT cJ cI) (fun _ => [(o, .inr (1, [.ref oP, .int (nI n), .ref oA, .ref oL, .ref oR, .int (nI ru), .int (nI me), .long mp, .int (nI gh)])), (oR, .inl (cI, M, .inl (fun j => nI (rl j))))]) := by
  refine CL.mk (by decide) rfl (Nat.le_of_ble_eq_true rfl) ?_
  intro p e s m args below meth c A Q ls hx hb hml hown hts hA hS hP hD hK hN hl hret
  have hl : lv_has ls 3 [(0, .ref o), (1, .int wh), (2, .int i)] := hl
  have hin_1 : ∀ w ∈ u_ws RX1 TX1 9, w ∈ wsX1_work := by decide +kernel
  have k_1 := hts (Cond.fieldLink RX1 60 "PairSorter" "runs" "I") (by decide +kernel)
  have k_2 := hts (Cond.fieldLink RX1 92 "PairSorter" "merges" "I") (by decide +kernel)
  have k_3 := hts (Cond.fieldLink RX1 95 "PairSorter" "mergedPairs" "J") (by decide +kernel)
  have k_4 := hts (Cond.fieldLink RX1 34 "PairSorter" "runLengths" "[I") (by decide +kernel)
  refine lv_iload_n hx hb dX1_work_0 rfl (lv_at hl 1 rfl) ?_
  by_cases w0 : wh = nI 0
  · refine lv_tableIn (tgt := 32) (off := 31) hx hb dX1_work_1 (by rw [w0]; decide) (by rw [w0]; decide) (by rw [w0]; rfl) (by decide) ?_
    refine lv_aload_n hx hb dX1_work_32 rfl (lv_at hl 0 rfl) ?_
    refine va_get (D := (dC, dI)) (ci := 1) (v := .int (nI ru)) (C := RX1) (T := TX1) (N := 9) hx hb hts hin_1 hown hK hP 0 rfl rfl 5 (by decide) k_1 (fun _ h9 => h9) rfl dX1_work_33 ?_
    refine lv_i2l hx hb dX1_work_36 rfl ?_
    exact hret () _ _ _ _ _ _ _ (by unfold wkV; rw [if_pos w0]) hP hK hD hS (Nat.le_of_ble_eq_true rfl) (Nat.le_of_ble_eq_true rfl) dX1_work_37
  · skip
    by_cases w1 : wh = nI 1
    · refine lv_tableIn (tgt := 38) (off := 37) hx hb dX1_work_1 (by rw [w1]; decide) (by rw [w1]; decide) (by rw [w1]; rfl) (by decide) ?_
      refine lv_aload_n hx hb dX1_work_38 rfl (lv_at hl 0 rfl) ?_
      refine va_get (D := (dC, dI)) (ci := 1) (v := .int (nI me)) (C := RX1) (T := TX1) (N := 9) hx hb hts hin_1 hown hK hP 0 rfl rfl 6 (by decide) k_2 (fun _ h9 => h9) rfl dX1_work_39 ?_
      refine lv_i2l hx hb dX1_work_42 rfl ?_
      exact hret () _ _ _ _ _ _ _ (by unfold wkV; rw [if_neg w0, if_pos w1]) hP hK hD hS (Nat.le_of_ble_eq_true rfl) (Nat.le_of_ble_eq_true rfl) dX1_work_43
    · skip
      by_cases w2 : wh = nI 2
      · refine lv_tableIn (tgt := 44) (off := 43) hx hb dX1_work_1 (by rw [w2]; decide) (by rw [w2]; decide) (by rw [w2]; rfl) (by decide) ?_
        refine lv_aload_n hx hb dX1_work_44 rfl (lv_at hl 0 rfl) ?_
        refine va_get (D := (dC, dI)) (ci := 1) (v := .long mp) (C := RX1) (T := TX1) (N := 9) hx hb hts hin_1 hown hK hP 0 rfl rfl 7 (by decide) k_3 (fun _ h9 => h9) rfl dX1_work_45 ?_
        exact hret () _ _ _ _ _ _ _ (by unfold wkV; rw [if_neg w0, if_neg w1, if_pos w2]) hP hK hD hS (Nat.le_of_ble_eq_true rfl) (Nat.le_of_ble_eq_true rfl) dX1_work_48
      · skip
        by_cases w3 : wh = nI 3
        · refine lv_tableIn (tgt := 49) (off := 48) hx hb dX1_work_1 (by rw [w3]; decide) (by rw [w3]; decide) (by rw [w3]; rfl) (by decide) ?_
          refine lv_iload_n hx hb dX1_work_49 rfl (lv_at hl 2 rfl) ?_
          refine lv_if_lt (tgt := 71) hx hb dX1_work_50 (by decide) (fun c_50 => ?_) (fun c_50 => ?_)
          · have hz : lN 0 = wkV wh i ru rl me mp := by unfold wkV; rw [if_neg w0, if_neg w1, if_neg w2, if_pos w3, if_neg (fun q => by have h2 := (neg_int i).mp c_50; omega)]
            refine lv_lconst (v := lN 0) hx hb dX1_work_71 (by decide) ?_
            exact hret () _ _ _ _ _ _ _ (hz) hP hK hD hS (Nat.le_of_ble_eq_true rfl) (Nat.le_of_ble_eq_true rfl) dX1_work_72
          · obtain ⟨j, hj, rfl⟩ := nI_of c_50
            refine lv_iload_n hx hb dX1_work_53 rfl (lv_at hl 2 rfl) ?_
            refine lv_aload_n hx hb dX1_work_54 rfl (lv_at hl 0 rfl) ?_
            refine va_get (D := (dC, dI)) (ci := 1) (v := .int (nI ru)) (C := RX1) (T := TX1) (N := 9) hx hb hts hin_1 hown hK hP 0 rfl rfl 5 (by decide) k_1 (fun _ h9 => h9) rfl dX1_work_55 ?_
            refine xr_icmp_ge (tgt := 71) hx hb dX1_work_58 (by decide) (by omega) (by omega) (fun c_58 => ?_) (fun c_58 => ?_)
            · have hz : lN 0 = wkV wh (nI j) ru rl me mp := by unfold wkV; rw [if_neg w0, if_neg w1, if_neg w2, if_pos w3, nI_toInt hj, if_neg (by omega)]
              refine lv_lconst (v := lN 0) hx hb dX1_work_71 (by decide) ?_
              exact hret () _ _ _ _ _ _ _ (hz) hP hK hD hS (Nat.le_of_ble_eq_true rfl) (Nat.le_of_ble_eq_true rfl) dX1_work_72
            · have hz : (nI (rl j)).toInt64 = wkV wh (nI j) ru rl me mp := by unfold wkV; rw [if_neg w0, if_neg w1, if_neg w2, if_pos w3, nI_toInt hj, if_pos (by omega), nI_clamp hj]
              refine lv_aload_n hx hb dX1_work_61 rfl (lv_at hl 0 rfl) ?_
              refine va_get (D := (dC, dI)) (ci := 1) (v := .ref oR) (C := RX1) (T := TX1) (N := 9) hx hb hts hin_1 hown hK hP 0 rfl rfl 4 (by decide) k_4 (fun _ h9 => h9) rfl dX1_work_62 ?_
              refine lv_iload_n hx hb dX1_work_65 rfl (lv_at hl 2 rfl) ?_
              refine xr_iald hx hb hK hP 1 1 rfl rfl (by omega) (by omega) dX1_work_66 ?_
              refine xr_top (y := nI (rl j)) rfl ?_
              refine lv_i2l hx hb dX1_work_67 rfl ?_
              refine lv_goto (tgt := 72) hx hb dX1_work_68 (by decide) ?_
              exact hret () _ _ _ _ _ _ _ (hz) hP hK hD hS (Nat.le_of_ble_eq_true rfl) (Nat.le_of_ble_eq_true rfl) dX1_work_72
        · refine lv_tableOut (tgt := 73) hx hb dX1_work_1 (tsw4 w0 w1 w2 w3) (by decide) ?_
          refine lv_lconst (v := lN 0) hx hb dX1_work_73 (by decide) ?_
          exact hret () _ _ _ _ _ _ _ (by unfold wkV; rw [if_neg w0, if_neg w1, if_neg w2, if_neg w3]) hP hK hD hS (Nat.le_of_ble_eq_true rfl) (Nat.le_of_ble_eq_true rfl) dX1_work_74

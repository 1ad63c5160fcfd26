/-! THE TWO SIDES agree: the list of longs is the reference's keys and tags -/
def rKT (f : Nat → Int64) (K T : Nat → Int32) (n : Nat) : Prop := ∀ j, j < n → kyI (f j) = K j ∧ tgI (f j) = T j
theorem rKT_k {f : Nat → Int64} {K T : Nat → Int32} {n : Nat} (h : rKT f K T n) : ∀ j, j < n → kf f j = kG K j := fun j hj => by
  show (kyI (f j)).toInt = (K j).toInt
  rw [(h j hj).1]
theorem rKT_put {f : Nat → Int64} {K T : Nat → Int32} {n : Nat} (h : rKT f K T n) (k t : Int32) : rKT (uN_up f n (prI k t)) (uN_up K n k) (uN_up T n t) (n + 1) := by
  intro j hj
  by_cases e : j = n
  · rw [e, up_s, up_s, up_s]
    exact ⟨kyI_pr k t, tgI_pr k t⟩
  · rw [up_n e, up_n e, up_n e]
    exact h j (by omega)
theorem rKT_fill {f : Nat → Int64} {K T : Nat → Int32} {n : Nat} (h : rKT f K T n) (key step m tag : Int32) (c : Nat) : rKT (flF f n key step m tag c) (gF K n (fkI key step m) c) (gF T n (fun j => tag + nI j) c) (n + c) := by
  intro j hj
  by_cases e : n ≤ j
  · rw [gF_in e hj, gF_in e hj]
    unfold flF
    rw [if_pos ⟨e, hj⟩]
    exact ⟨kyI_pr _ _, tgI_pr _ _⟩
  · rw [gF_out (Or.inl (by omega)), gF_out (Or.inl (by omega))]
    unfold flF
    rw [if_neg (by omega)]
    exact h j (by omega)
theorem rKT_turn {f : Nat → Int64} {K T : Nat → Int32} {n a b : Nat} (h : rKT f K T n) (hab : a + b ≤ n) : rKT (trF f a b) (trG K a b) (trG T a b) n := by
  intro j hj
  unfold trF trG
  by_cases e : a ≤ j ∧ j < a + b
  · rw [if_pos e, if_pos e, if_pos e]
    exact h _ (by omega)
  · rw [if_neg e, if_neg e, if_neg e]
    exact h j hj
def piK (x : Int64) : Int32 × Int32 := (kyI x, tgI x)
theorem k2_pi (x : Int64) : k2 (piK x) = ky x := rfl
theorem sE_map {l1 l2 : List Int64} (h : sE ky l1 l2) : sE k2 (l1.map piK) (l2.map piK) := by
  intro k
  rw [List.filter_map, List.filter_map]
  exact congrArg (List.map piK) (h k)
theorem sd_map {l : List Int64} (h : sd ky l) : sd k2 (l.map piK) := by
  unfold sd at *
  rw [List.pairwise_map]
  exact h
theorem sg_map (f : Nat → Int64) (a b : Nat) : (sg f a b).map piK = sg (fun j => piK (f j)) a b := by
  unfold sg
  rw [List.map_map]
  rfl
theorem rKT_run {f f' : Nat → Int64} {K T K' T' : Nat → Int32} {n : Nat} (h : rKT f K T n) (h1 : so ky f' 0 n) (h2 : sE ky (sg f' 0 n) (sg f 0 n)) (h3 : so k2 (prF K' T') 0 n) (h4 : sE k2 (sg (prF K' T') 0 n) (sg (prF K T) 0 n)) : rKT f' K' T' n := by
  have e1 : (sg f 0 n).map piK = sg (prF K T) 0 n := by
    rw [sg_map]
    exact sg_congr (fun j _ hj => by
      show (kyI (f j), tgI (f j)) = (K j, T j)
      rw [(h j hj).1, (h j hj).2])
  have e2 : (sg f' 0 n).map piK = sg (prF K' T') 0 n := by
    refine sE_uniq _ _ (sd_map (so_sd h1)) (so_sd h3) (sE_trans (sE_map h2) ?_)
    rw [e1]
    exact sE_symm h4
  intro j hj
  have e3 : ((sg f' 0 n).map piK)[j]? = some (piK (f' j)) := by
    rw [List.getElem?_map, sg_get f' (by omega), Nat.zero_add]
    rfl
  rw [e2, sg_get _ (by omega), Nat.zero_add] at e3
  have e4 : prF K' T' j = piK (f' j) := Option.some.inj e3
  exact ⟨(congrArg Prod.fst e4).symm, (congrArg Prod.snd e4).symm⟩
theorem atV_congr {g g' : Nat → Int32} {i : Int32} {n : Nat} (h : ∀ j, j < n → g j = g' j) : atV g' i n = atV g i n := by
  unfold atV
  by_cases e : 0 ≤ i.toInt ∧ i.toInt < (n : Int)
  · rw [if_pos e, if_pos e]
    exact (h _ (by show i.toInt.toNat < n; omega)).symm
  · rw [if_neg e, if_neg e]
theorem srt_congr {f : Nat → Int64} {K T : Nat → Int32} {n : Nat} (h : rKT f K T n) : ∀ j, j < n → nI (1 + cnt (nfl (kf f)) (j + 1) (n - (j + 1))) = nI (1 + cnt (nfl (kG K)) (j + 1) (n - (j + 1))) := by
  intro j hj
  rw [cnt_congr (P := nfl (kf f)) (P' := nfl (kG K)) (n - (j + 1)) (j + 1) (fun q g1 g2 => by
    unfold nfl fl
    rw [rKT_k h q (by omega), rKT_k h (q - 1) (by omega)])]
theorem wkV_congr {wh i : Int32} {ru me : Nat} {rl ln : Nat → Nat} {mp : Int64} (h : eqB rl ln ru) : wkV wh i ru ln me mp = wkV wh i ru rl me mp := by
  unfold wkV
  by_cases e : 0 ≤ i.toInt ∧ i.toInt < (ru : Int)
  · rw [h i.toNatClampNeg (by show i.toInt.toNat < ru; omega)]
  · rw [if_neg e, if_neg e]
theorem turn_y {i k r : Int32} {n a b : Nat} (hn : n ≤ 4096) (hab : a + b ≤ n) (hi : i = nI a) (hk : k = nI b) {K T u1 u2 : Nat → Int32} (h : (∃ a b : Nat, a + b ≤ n ∧ i = nI a ∧ k = nI b ∧ r = nI b ∧ u1 = trG K a b ∧ u2 = trG T a b) ∨ (¬ trC i k n ∧ r = nI 0 ∧ u1 = K ∧ u2 = T)) : r = nI b ∧ u1 = trG K a b ∧ u2 = trG T a b := by
  rcases h with ⟨a2, b2, h1, h2, h3, h4, h5, h6⟩ | ⟨h1, -⟩
  · have e1 := (nI_eq (show a < 2 ^ 31 by omega) (show a2 < 2 ^ 31 by omega)).mp (hi.symm.trans h2)
    have e2 := (nI_eq (show b < 2 ^ 31 by omega) (show b2 < 2 ^ 31 by omega)).mp (hk.symm.trans h3)
    rw [e1, e2]
    exact ⟨h4, h5, h6⟩
  · exact absurd ⟨a, b, hab, hi, hk⟩ h1
theorem turn_n {i k r : Int32} {n : Nat} (hno : ¬ trC i k n) {K T u1 u2 : Nat → Int32} (h : (∃ a b : Nat, a + b ≤ n ∧ i = nI a ∧ k = nI b ∧ r = nI b ∧ u1 = trG K a b ∧ u2 = trG T a b) ∨ (¬ trC i k n ∧ r = nI 0 ∧ u1 = K ∧ u2 = T)) : r = nI 0 ∧ u1 = K ∧ u2 = T := by
  rcases h with ⟨a2, b2, h1, h2, h3, -⟩ | ⟨-, h⟩
  · exact absurd ⟨a2, b2, h1, h2, h3⟩ hno
  · exact h
theorem run_eq {κ κ' : Nat → Int} {n : Nat} (hκ : ∀ j, j < n → κ j = κ' j) {rl ln le pi rl1 ln1 : Nat → Nat} {ru1 me1 mp1 ht1 ru2 me2 mp2 ht2 : Nat} (h1 : (ru1, rl1, me1, mp1, ht1) = rnQ κ n rl le) (h2 : (ru2, ln1, me2, mp2, ht2) = rnQ κ' n ln pi) : ru2 = ru1 ∧ me2 = me1 ∧ mp2 = mp1 ∧ ht2 = ht1 ∧ eqB rl1 ln1 ru1 := by
  obtain ⟨a1, a2, a3⟩ := rnQ_congr hκ rl ln le pi
  rw [← h1, ← h2] at a1 a2 a3
  have a3 : (me1, mp1, ht1) = (me2, mp2, ht2) := a3
  simp only [Prod.mk.injEq] at a3
  exact ⟨a1.symm, a3.1.symm, a3.2.1.symm, a3.2.2.symm, a2⟩
section RWS
variable {p : Program} {l : Launch} {e : Env} {R : Room} {s : State} {m : MethodId} {args : Array Value} {below : List Frame} {meth : Method} {c : Code} {H : Heap} {locs : List Loc} {cells slots : Nat} {Q : State → Prop}
variable {cc : ByteArray} {pc : Nat} {ls : Array Slot} {rest : List Value} {A : Nat → Prop} {H0 : Heap}
theorem xr_sld (hexec : p.tables.exec = Jvm.exec) (hb : c.code = cc) {b L : Nat} {xs : Nat → Int32} (hX : va_X b L xs s H0) (hbl : b < H0.size) (hbA : ¬ A b) (hS : va_S A H0 H locs) {i : Nat} (hi : i < L) (hL : L < 2 ^ 31) (hdg : decode cc pc = .ok (.iaload, 1)) (k : W p l e R s m args below meth c H locs cells slots Q (F0 m (pc + 1) ls (.int (xs i) :: rest))) : W p l e R s m args below meth c H locs cells slots Q (F0 m pc ls (.int (nI i) :: .ref b :: rest)) :=
  va_sld hexec hb hX hbl hbA hS (vp_in_nI hi hL) hdg (by rw [nI_clamp (Nat.lt_trans hi hL)]; exact k)
theorem xr_slen (hexec : p.tables.exec = Jvm.exec) (hb : c.code = cc) {b L : Nat} {xs : Nat → Int32} (hX : va_X b L xs s H0) (hbl : b < H0.size) (hbA : ¬ A b) (hS : va_S A H0 H locs) (hdg : decode cc pc = .ok (.arraylength, 1)) (k : W p l e R s m args below meth c H locs cells slots Q (F0 m (pc + 1) ls (.int (nI L) :: rest))) : W p l e R s m args below meth c H locs cells slots Q (F0 m pc ls (.ref b :: rest)) :=
  va_slen hexec hb hX hbl hbA hS hdg k
end RWS
abbrev rmL_cell : Room := { frames := 0, cells := 0, slots := 0, locals := 0 }
set_option maxRecDepth 100000 in
set_option maxHeartbeats 4000000 in
/-- cell(s, 0) -/
theorem c_L_cell (l : Launch) (b L sz : Nat) (xs : Nat → Int32) (hL : L ≤ 3073) : Met l yL_cell wsL_cell rmL_cell (va_Pc [.ref b, .int (nI 0)] (fun U => U.heap.size = sz ∧ va_X b L xs U U.heap)) (va_Qi (fun (r : Int32) (_ : Unit) => r = if 0 < L then xs 0 else nI 0) (fun _ _ => True) (va_A [] sz)) 0 0 (va_A [] sz) := by
  refine Met.ofW (cc := cL_cell) (maxL := 2) (ret := some .int) (by decide) rfl ?_
  intro p e s m args below meth c s₁ B hml hv
  obtain ⟨rfl, hsz, hX⟩ := hv
  subst hsz
  have hx := B.exec
  have hb := B.bytes
  have hr := B.returns
  have hlocks := B.notSynchronized
  have hbl : b < s.heap.size := by
    obtain ⟨scr, h1, -⟩ := hX
    exact (Array.getElem?_eq_some_iff.mp h1).1
  have hbA : ¬ va_A [] s.heap.size b := by
    rintro (⟨k, e, h⟩ | h)
    · simp at h
    · omega
  have hS : va_S (va_A [] s.heap.size) s.heap s.heap [] := va_S.rf
  have hl := lv_entry ([.ref b, .int (nI 0)]) (n := 2) (Nat.le_of_ble_eq_true rfl)
  rw [lg_entry_eq]
  generalize (lg_sl ([.ref b, .int (nI 0)]) ++ List.replicate (2 - (lg_sl ([.ref b, .int (nI 0)])).length) Slot.unset).toArray = ls at hl ⊢
  have hl : lv_has ls 2 [(0, .ref b), (1, .int (nI 0))] := hl
  refine lv_iload_n hx hb dL_cell_0 rfl (lv_at hl 1 rfl) ?_
  refine lv_aload_n hx hb dL_cell_1 rfl (lv_at hl 0 rfl) ?_
  refine xr_slen hx hb hX hbl hbA hS dL_cell_2 ?_
  refine xr_icmp_ge (tgt := 12) hx hb dL_cell_3 (by decide) (by omega) (by omega) (fun c_3 => ?_) (fun c_3 => ?_)
  · refine lv_iconst (v := nI 0) hx hb dL_cell_12 (by decide) ?_
    exact W.iret (v := nI 0) hx hb hr (fun t ht hW => ⟨⟨nI 0, (), rfl, by rw [if_neg (by omega)], trivial⟩, hS.F ht⟩) hS.2.2 dL_cell_13
  · refine lv_aload_n hx hb dL_cell_6 rfl (lv_at hl 0 rfl) ?_
    refine lv_iload_n hx hb dL_cell_7 rfl (lv_at hl 1 rfl) ?_
    refine xr_sld hx hb hX hbl hbA hS c_3 (by omega) dL_cell_8 ?_
    refine lv_goto (tgt := 13) hx hb dL_cell_9 (by decide) ?_
    exact W.iret (v := xs 0) hx hb hr (fun t ht hW => ⟨⟨xs 0, (), rfl, by rw [if_pos c_3], trivial⟩, hS.F ht⟩) hS.2.2 dL_cell_13
theorem nw_in : ∀ w ∈ nwL, w ∈ lw_tbl := by decide +kernel
theorem nw_on : ∀ w ∈ nwL, w.onTables = true := by decide +kernel

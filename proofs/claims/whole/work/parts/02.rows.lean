/-! CONTRACTS in one form, their entry, their ends, and calls of them: every method's picture 'wc' is a list of cells; behind it 'w1 u' -/
/-- the links to private members of the nest mate, which a state carries: all at once -/
def nwL : List Cond := [.methodLinkNest RX1 27 yX0_init "PairSorter", .fieldLinkNest RX1 146 "PairSorter$Pile" "starts" "[I" "PairSorter", .fieldLinkNest RX1 149 "PairSorter$Pile" "lengths" "[I" "PairSorter", .fieldLinkNest RX1 129 "PairSorter$Pile" "count" "I" "PairSorter", .fieldLinkNest RX1 78 "PairSorter$Pile" "height" "I" "PairSorter", .methodLinkNest RX1 102 yX0_empty "PairSorter", .methodLinkNest RX1 66 yX0_push "PairSorter", .methodLinkNest RX1 132 yX0_isTooFlat "PairSorter", .methodLinkNest RX1 136 yX0_placeBelowShorterNeighbour "PairSorter", .methodLinkNest RX1 159 yX0_join "PairSorter", .methodLinkNest RX1 143 yX0_isTopTooLong "PairSorter"]
def nwB : Cond → Bool
  | .fieldLinkNest .. => true
  | .methodLinkNest .. => true
  | _ => false
def NW (U : State) : Prop := ∀ w ∈ nwL, va_Nw w U
theorem nw_all : nwL.all nwB = true := by decide +kernel
theorem nw_warm {w : Cond} (hb : nwB w = true) {s U : State} (hW : s.WarmedH U.vm) (hZ : va_Nw w s) : va_Nw w U := by
  cases w <;> first | exact va_Nw.warmF hW hZ | exact va_Nw.warmM hW hZ | (exact absurd hb (by simp [nwB]))
theorem nw_same {w : Cond} (hb : nwB w = true) {s U : State} (hW : s.vm = U.vm) (hZ : va_Nw w s) : va_Nw w U := by
  cases w <;> first | exact va_Nw.same rfl hW hZ | (exact absurd hb (by simp [nwB]))
theorem NW.warm {s U : State} (hW : s.WarmedH U.vm) (h : NW s) : NW U := fun w hw => nw_warm (List.all_eq_true.mp nw_all w hw) hW (h w hw)
theorem NW.same {s U : State} (hW : s.vm = U.vm) (h : NW s) : NW U := fun w hw => nw_same (List.all_eq_true.mp nw_all w hw) hW (h w hw)
def ct_pre (D : va_G) (cl : List vw_C) (tys : List (ClassId × FieldType)) (ws : va_W) (sz : Nat) : State → Prop := fun U => U.heap.size = sz ∧ va_P D cl ws U.heap ∧ va_K D cl tys U ∧ va_D (fun _ => True) ws ∧ NW U
def ct_post (D : va_G) (cl : List vw_C) (wc : va_W) (sz : Nat) {S : Type} (t1 : S → List (ClassId × FieldType)) (w1 : S → va_W) : S → State → Prop := fun u t => va_P D cl (w1 u) t.heap ∧ va_K D cl (t1 u) t ∧ va_D (va_A wc sz) (w1 u)
theorem ct_blind {av : List Value} {D : va_G} {cl : List vw_C} {tys : List (ClassId × FieldType)} {ws : va_W} {sz : Nat} : FrameBlind (va_Pc av (ct_pre D cl tys ws sz)) := fun a U g mk q => by
  obtain ⟨q0, q1, qP, qK, qD, qN⟩ := q
  exact ⟨q0, q1, qP, va_K.moved (u := U) (U := U.calling g mk a) (Vm.Alike.refl U.vm) qK, qD, NW.same (s := U) (U := U.calling g mk a) rfl qN⟩
/-- contracts: of an answer that is an int, a long, none -/
def CI (l : Launch) (y : MethodName) (ws : List Cond) (rm : Room) (av : List Value) (D : va_G) (cl : List vw_C) (tys : List (ClassId × FieldType)) (wc : va_W) {S : Type} (post : Int32 → S → Prop) (t1 : S → List (ClassId × FieldType)) (w1 : S → va_W) : Prop :=
  ∀ sz : Nat, Met l y ws rm (va_Pc av (ct_pre D cl tys wc sz)) (va_Qi post (ct_post D cl wc sz t1 w1) (va_A wc sz)) rm.cells rm.slots (va_A wc sz)
def CL (l : Launch) (y : MethodName) (ws : List Cond) (rm : Room) (av : List Value) (D : va_G) (cl : List vw_C) (tys : List (ClassId × FieldType)) (wc : va_W) {S : Type} (post : Int64 → S → Prop) (t1 : S → List (ClassId × FieldType)) (w1 : S → va_W) : Prop :=
  ∀ sz : Nat, Met l y ws rm (va_Pc av (ct_pre D cl tys wc sz)) (va_Ql post (ct_post D cl wc sz t1 w1) (va_A wc sz)) rm.cells rm.slots (va_A wc sz)
def CV (l : Launch) (y : MethodName) (ws : List Cond) (rm : Room) (av : List Value) (D : va_G) (cl : List vw_C) (tys : List (ClassId × FieldType)) (wc : va_W) {S : Type} (post : S → Prop) (t1 : S → List (ClassId × FieldType)) (w1 : S → va_W) : Prop :=
  ∀ sz : Nat, Met l y ws rm (va_Pc av (ct_pre D cl tys wc sz)) (va_Qv post (ct_post D cl wc sz t1 w1) (va_A wc sz)) rm.cells rm.slots (va_A wc sz)
/-- how a method's walk ends -/
def RetI (p : Program) (l : Launch) (e : Env) (R : Room) (s : State) (m : MethodId) (args : Array Value) (below : List Frame) (meth : Method) (c : Code) (cc : ByteArray) (A : Nat → Prop) (D : va_G) (cl : List vw_C) (ty : FieldType) {S : Type} (post : Int32 → S → Prop) (t1 : S → List (ClassId × FieldType)) (w1 : S → va_W) (Q : State → Prop) : Prop :=
  ∀ (u : S) (v : Int32) (H : Heap) (locs : List Loc) (cells slots pc : Nat) (ls : Array Slot), post v u → va_P D cl (w1 u) H → va_K D cl (t1 u) s → va_D A (w1 u) → va_S A s.heap H locs → cells ≤ R.cells → slots ≤ R.slots → narrow ty (.int v) = .int v → decode cc pc = .ok (.ireturn, 1) → W p l e R s m args below meth c H locs cells slots Q (F0 m pc ls [.int v])
def RetL (p : Program) (l : Launch) (e : Env) (R : Room) (s : State) (m : MethodId) (args : Array Value) (below : List Frame) (meth : Method) (c : Code) (cc : ByteArray) (A : Nat → Prop) (D : va_G) (cl : List vw_C) {S : Type} (post : Int64 → S → Prop) (t1 : S → List (ClassId × FieldType)) (w1 : S → va_W) (Q : State → Prop) : Prop :=
  ∀ (u : S) (v : Int64) (H : Heap) (locs : List Loc) (cells slots pc : Nat) (ls : Array Slot), post v u → va_P D cl (w1 u) H → va_K D cl (t1 u) s → va_D A (w1 u) → va_S A s.heap H locs → cells ≤ R.cells → slots ≤ R.slots → decode cc pc = .ok (.lreturn, 1) → W p l e R s m args below meth c H locs cells slots Q (F0 m pc ls [.long v])
def RetV (p : Program) (l : Launch) (e : Env) (R : Room) (s : State) (m : MethodId) (args : Array Value) (below : List Frame) (meth : Method) (c : Code) (cc : ByteArray) (A : Nat → Prop) (D : va_G) (cl : List vw_C) {S : Type} (post : S → Prop) (t1 : S → List (ClassId × FieldType)) (w1 : S → va_W) (Q : State → Prop) : Prop :=
  ∀ (u : S) (H : Heap) (locs : List Loc) (cells slots pc : Nat) (ls : Array Slot), post u → va_P D cl (w1 u) H → va_K D cl (t1 u) s → va_D A (w1 u) → va_S A s.heap H locs → cells ≤ R.cells → slots ≤ R.slots → decode cc pc = .ok (.return_, 1) → W p l e R s m args below meth c H locs cells slots Q (F0 m pc ls [])
theorem CI.mk {l : Launch} {y : MethodName} {ws ws' : List Cond} {rm : Room} {av : List Value} {D : va_G} {cl : List vw_C} {tys : List (ClassId × FieldType)} {wc : va_W} {S : Type} {post : Int32 → S → Prop} {t1 : S → List (ClassId × FieldType)} {w1 : S → va_W} {cc : ByteArray} {maxL : Nat} {ty : FieldType}
    (hy : plainName y.cls = true) (hw : ws = Cond.code y cc maxL (some ty) :: ws') (hlen : (lg_sl av).length ≤ maxL)
    (body : ∀ (p : Program) (e : Env) (s : State) (m : MethodId) (args : Array Value) (below : List Frame) (meth : Method) (c : Code) (A : Nat → Prop) (Q : State → Prop) (ls : Array Slot), p.tables.exec = Jvm.exec → c.code = cc → c.maxLocals = maxL → s.vm.findClass y.cls = some m.cls → (∀ w ∈ ws, w.before args s = true) → (∀ q : Nat, s.heap.size ≤ q → A q) → va_S A s.heap s.heap [] → va_P D cl wc s.heap → va_D A wc → va_K D cl tys s → NW s → lv_has ls maxL (lv_args 0 av) →
      RetI p l e rm s m args below meth c cc A D cl ty post t1 w1 Q → W p l e rm s m args below meth c s.heap [] 0 0 Q (F0 m 0 ls [])) : CI l y ws rm av D cl tys wc post t1 w1 := by
  intro sz
  refine Met.ofW (cc := cc) (maxL := maxL) (ret := some ty) hy hw ?_
  intro p e s m args below meth c s₁ B hml hv
  obtain ⟨rfl, hsz, hP, hK, hD0, hN⟩ := hv
  subst hsz
  rw [lg_entry_eq]
  have hlocks := B.notSynchronized
  refine body p e s m _ below meth c (va_A wc s.heap.size) _ _ B.exec B.bytes hml (findClass_of_methodNamed B.named) (atoms_spec (ws := ws) B.pre) (fun q h => Or.inr h) va_S.rf hP hD0.self hK hN (lv_entry av hlen) ?_
  intro u v H locs cells slots pc ls hpost hP9 hK9 hD9 hS hc hs hn hdg
  refine W.widen (k := rm.cells) (n := rm.slots) hc hs ?_
  exact W.zret B.exec B.bytes B.returns hn (fun t ht hW => ⟨⟨v, u, rfl, hpost, by rw [ht]; exact hP9, va_K.moved hW.alike hK9, hD9⟩, hS.F ht⟩) hS.2.2 hdg
theorem CL.mk {l : Launch} {y : MethodName} {ws ws' : List Cond} {rm : Room} {av : List Value} {D : va_G} {cl : List vw_C} {tys : List (ClassId × FieldType)} {wc : va_W} {S : Type} {post : Int64 → S → Prop} {t1 : S → List (ClassId × FieldType)} {w1 : S → va_W} {cc : ByteArray} {maxL : Nat}
    (hy : plainName y.cls = true) (hw : ws = Cond.code y cc maxL (some .long) :: ws') (hlen : (lg_sl av).length ≤ maxL)
    (body : ∀ (p : Program) (e : Env) (s : State) (m : MethodId) (args : Array Value) (below : List Frame) (meth : Method) (c : Code) (A : Nat → Prop) (Q : State → Prop) (ls : Array Slot), p.tables.exec = Jvm.exec → c.code = cc → c.maxLocals = maxL → s.vm.findClass y.cls = some m.cls → (∀ w ∈ ws, w.before args s = true) → (∀ q : Nat, s.heap.size ≤ q → A q) → va_S A s.heap s.heap [] → va_P D cl wc s.heap → va_D A wc → va_K D cl tys s → NW s → lv_has ls maxL (lv_args 0 av) →
      RetL p l e rm s m args below meth c cc A D cl post t1 w1 Q → W p l e rm s m args below meth c s.heap [] 0 0 Q (F0 m 0 ls [])) : CL l y ws rm av D cl tys wc post t1 w1 := by
  intro sz
  refine Met.ofW (cc := cc) (maxL := maxL) (ret := some .long) hy hw ?_
  intro p e s m args below meth c s₁ B hml hv
  obtain ⟨rfl, hsz, hP, hK, hD0, hN⟩ := hv
  subst hsz
  rw [lg_entry_eq]
  have hlocks := B.notSynchronized
  refine body p e s m _ below meth c (va_A wc s.heap.size) _ _ B.exec B.bytes hml (findClass_of_methodNamed B.named) (atoms_spec (ws := ws) B.pre) (fun q h => Or.inr h) va_S.rf hP hD0.self hK hN (lv_entry av hlen) ?_
  intro u v H locs cells slots pc ls hpost hP9 hK9 hD9 hS hc hs hdg
  refine W.widen (k := rm.cells) (n := rm.slots) hc hs ?_
  exact W.lret B.exec B.bytes B.returns (fun t ht hW => ⟨⟨v, u, rfl, hpost, by rw [ht]; exact hP9, va_K.moved hW.alike hK9, hD9⟩, hS.F ht⟩) hS.2.2 hdg
theorem CV.mk {l : Launch} {y : MethodName} {ws ws' : List Cond} {rm : Room} {av : List Value} {D : va_G} {cl : List vw_C} {tys : List (ClassId × FieldType)} {wc : va_W} {S : Type} {post : S → Prop} {t1 : S → List (ClassId × FieldType)} {w1 : S → va_W} {cc : ByteArray} {maxL : Nat}
    (hy : plainName y.cls = true) (hw : ws = Cond.code y cc maxL none :: ws') (hlen : (lg_sl av).length ≤ maxL)
    (body : ∀ (p : Program) (e : Env) (s : State) (m : MethodId) (args : Array Value) (below : List Frame) (meth : Method) (c : Code) (A : Nat → Prop) (Q : State → Prop) (ls : Array Slot), p.tables.exec = Jvm.exec → c.code = cc → c.maxLocals = maxL → s.vm.findClass y.cls = some m.cls → (∀ w ∈ ws, w.before args s = true) → meth.name = y.name → (∀ q : Nat, s.heap.size ≤ q → A q) → va_S A s.heap s.heap [] → va_P D cl wc s.heap → va_D A wc → va_K D cl tys s → NW s → lv_has ls maxL (lv_args 0 av) →
      RetV p l e rm s m args below meth c cc A D cl post t1 w1 Q → W p l e rm s m args below meth c s.heap [] 0 0 Q (F0 m 0 ls [])) : CV l y ws rm av D cl tys wc post t1 w1 := by
  intro sz
  refine Met.ofW (cc := cc) (maxL := maxL) (ret := none) hy hw ?_
  intro p e s m args below meth c s₁ B hml hv
  obtain ⟨rfl, hsz, hP, hK, hD0, hN⟩ := hv
  subst hsz
  rw [lg_entry_eq]
  have hlocks := B.notSynchronized
  refine body p e s m _ below meth c (va_A wc s.heap.size) _ _ B.exec B.bytes hml (findClass_of_methodNamed B.named) (atoms_spec (ws := ws) B.pre) (name_of_methodNamed B.named B.method).1 (fun q h => Or.inr h) va_S.rf hP hD0.self hK hN (lv_entry av hlen) ?_
  intro u H locs cells slots pc ls hpost hP9 hK9 hD9 hS hc hs hdg
  refine W.widen (k := rm.cells) (n := rm.slots) hc hs ?_
  exact W.vret B.exec B.bytes B.returns (fun t ht hW => ⟨⟨u, rfl, hpost, by rw [ht]; exact hP9, va_K.moved hW.alike hK9, hD9⟩, hS.F ht⟩) hS.2.2 hdg

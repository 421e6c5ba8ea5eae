/-! the layer: a machine of whole numbers and named cells over the kit's W -/
abbrev hb_V : Type := Int ⊕ (Option Nat ⊕ Int)
abbrev hb_C : Type := (Nat × List hb_V) ⊕ ((Nat × Nat × (Int → Int)) ⊕ (Nat × Nat × (Int → Option Nat)))
abbrev hb_H : Type := Nat → hb_C
abbrev hb_E : Type := va_G × (Nat → ClassId)
abbrev hb_O : Type := Option hb_V ⊕ String
abbrev hb_i (z : Int) : hb_V := .inl z
abbrev hb_r (p : Nat) : hb_V := .inr (.inl (some p))
abbrev hb_n : hb_V := .inr (.inl none)
abbrev hb_l (z : Int) : hb_V := .inr (.inr z)
abbrev hb_in (z : Int) : Prop := -2147483648 ≤ z ∧ z ≤ 2147483647
def hb_cv (σ : Nat → Nat) (v : hb_V) : Value := match v with
  | .inl z => .int (Int32.ofInt z)
  | .inr (.inl none) => .null
  | .inr (.inl (some p)) => .ref (σ p)
  | .inr (.inr z) => .long (Int64.ofInt z)
/-- the arrays' kinds: of int, boolean, long, entries, rows of int -/
def hb_ty (k : Nat) : FieldType := match k with
  | 0 => .int
  | 1 => .boolean
  | 2 => .long
  | 3 => .object "HangarBook$Entry"
  | _ => .array .int
def hb_el (k : Nat) (z : Int) : Value := match k with
  | 2 => .long (Int64.ofInt z)
  | _ => .int (Int32.ofInt z)
def hb_at (E : hb_E) (σ : Nat → Nat) (a : Nat) (c : hb_C) (H : Heap) : Prop := match c with
  | .inl (ci, fs) => ∃ r : vw_C, vwCl[ci]? = some r ∧ fs.length = r.2.2 ∧ t_OB a (E.1.1 ci) r.2.2 (E.1.2 ci) H (vp_V (fs.map (hb_cv σ)))
  | .inr (.inl (k, n, f)) => H[a]? = some (arrV (E.2 k) n (fun j => hb_el k (f (j : Int))))
  | .inr (.inr (k, n, f)) => H[a]? = some (arrV (E.2 k) n (fun j => hb_cv σ (.inr (.inl (f (j : Int))))))
/-- all names in a cell are below N -/
def hb_cl (N : Nat) (c : hb_C) : Prop := match c with
  | .inl (_, fs) => ∀ p : Nat, hb_r p ∈ fs → p < N
  | .inr (.inl _) => True
  | .inr (.inr (_, n, f)) => ∀ (j p : Nat), j < n → f (j : Int) = some p → p < N
def hb_junk : hb_C := .inl (99, [])
/-- the heap H holds the named cells, below them the heap that was there at the law's start -/
def hb_R (E : hb_E) (z0 : Heap) (σ : Nat → Nat) (h : hb_H) (N : Nat) (H : Heap) : Prop :=
  (z0.size ≤ H.size ∧ ∀ q : Nat, q < z0.size → H[q]? = z0[q]?) ∧ (∀ p, p < N → z0.size ≤ σ p ∧ hb_at E σ (σ p) (h p) H ∧ hb_cl N (h p)) ∧ (∀ p q, p < N → q < N → σ p = σ q → p = q) ∧ ∀ p, N ≤ p → h p = hb_junk
def hb_K (E : hb_E) (U : State) : Prop := va_K E.1 vwCl [] U ∧ ∀ k, k < 5 → ArrOfT U (E.2 k) (hb_ty k) ∧ va_RA U (E.2 k) (hb_ty k) ∧ ArrOfT U (E.2 5) .int
theorem hb_K.moved {E : hb_E} {u U : State} (hvm : u.vm.Alike U.vm) (h : hb_K E u) : hb_K E U := ⟨va_K.moved hvm h.1, fun k hk => ⟨arrOfT_moved hvm (h.2 k hk).1, (h.2 k hk).2.1.moved hvm, arrOfT_moved hvm (h.2 k hk).2.2⟩⟩
theorem hb_ao {ty : FieldType} {s U : State} (hW : s.vm.Alike U.vm) (h : va_Nw (.arrayOver ty) s) : va_Nw (.arrayOver ty) U := by
  have h1 : (Cond.arrayOver ty).before #[] (s.setVm U.vm) = true := by rw [Cond.arrayOver_setVmC hW]; exact h
  have h2 : (Cond.arrayOver ty).before #[] (s.setVm U.vm) = (Cond.arrayOver ty).before #[] U := by
    simp only [Cond.before, Cond.holds, Cond.value, State.vm_setVm]
    rfl
  unfold va_Nw
  rw [← h2]; exact h1
/-- what throws and catches want of the classes -/
def hb_B0 (U : State) : Prop := va_Nw (.declares ⟨"java/lang/RuntimeException", "<init>", "(Ljava/lang/String;)V"⟩) U ∧ va_Nw (.declares ⟨"java/lang/Exception", "<init>", "(Ljava/lang/String;)V"⟩) U ∧ va_Nw (.declares ⟨"java/lang/Throwable", "<init>", "(Ljava/lang/String;)V"⟩) U
  ∧ va_Nw (.castable "java/lang/IllegalArgumentException" "java/lang/IllegalArgumentException") U ∧ va_Nw (.castable "java/lang/IllegalStateException" "java/lang/IllegalStateException") U ∧ va_Nc "java/lang/IllegalStateException" "java/lang/IllegalArgumentException" U ∧ va_Nw (.arrayOver (.array .int)) U ∧ va_Nw (.arrayOver (.object "HangarBook$Entry")) U
theorem hb_B0.moved {s U : State} (hW : s.WarmedH U.vm) (h : hb_B0 s) : hb_B0 U := by
  obtain ⟨h1, h2, h3, h4, h5, h6, h7, h8⟩ := h
  exact ⟨va_Nw.warmD hW h1, va_Nw.warmD hW h2, va_Nw.warmD hW h3, va_Nw.warmC hW h4, va_Nw.warmC hW h5, va_Nc.moved hW.alike h6, hb_ao hW.alike h7, hb_ao hW.alike h8⟩
def hb_B (z0 : Heap) (U : State) : Prop := (vx_Zq Bundle.tN "UNASSIGNED_STACK" Bundle.steD (fun q => z0.size ≤ q) U z0 ∧ hb_B0 U) ∧ vx_Zq Bundle.tN "SUPPRESSED_SENTINEL" Bundle.listD (fun q => z0.size ≤ q) U z0
  ∧ (∃ a, vk_R RX8 250 "no such thing, point or amount" a U) ∧ (∃ a, vk_R RX8 246 "the book can't hold this entry" a U) ∧ (∃ a, vk_R RX8 153 "the other moves need this one" a U)
  ∧ va_Nw (.methodLinkNest RX6 33 yX8_isBelow RX8) U ∧ va_Nw (.methodLinkNest RX5 29 yX8_isBelow RX8) U ∧ va_Nw (.methodLinkNest RX3 33 yX8_isBelow RX8) U ∧ va_Nw (.methodLinkNest RX0 33 yX8_isBelow RX8) U
theorem hb_B.moved {z0 : Heap} {s U : State} (hW : s.WarmedH U.vm) (h : hb_B z0 s) : hb_B z0 U := by
  obtain ⟨⟨h1, h0⟩, h2, ⟨a, h3⟩, ⟨b, h4⟩, ⟨c, h5⟩, h6, h7, h8, h9⟩ := h
  exact ⟨⟨vx_Zq.moved hW.alike h1, hb_B0.moved hW h0⟩, vx_Zq.moved hW.alike h2, ⟨a, vk_R.warm hW h3⟩, ⟨b, vk_R.warm hW h4⟩, ⟨c, vk_R.warm hW h5⟩, va_Nw.warmM hW h6, va_Nw.warmM hW h7, va_Nw.warmM hW h8, va_Nw.warmM hW h9⟩
/-- the words that every method has -/
def hb_ws : List Cond := lw_tbl.filter goodWord
theorem hb_ws_of {w : Cond} (h : w ∈ lw_tbl) (g : goodWord w = true) : w ∈ hb_ws := List.mem_filter.mpr ⟨h, g⟩
theorem hb_ws_good : GoodIn hb_ws hb_ws := fun w h => ⟨h, good_of_word (List.mem_filter.mp h).2⟩
abbrev hb_rm (d kc ks : Nat) : Room := { frames := d, cells := kc, slots := ks, locals := 36 * d }
/-- names that are not new stay where they were -/
def hb_ex (σ σ' : Nat → Nat) (N N' : Nat) : Prop := N ≤ N' ∧ ∀ p, ¬ (N ≤ p ∧ p < N') → σ' p = σ p
theorem hb_ex.rf {σ : Nat → Nat} {N : Nat} : hb_ex σ σ N N := ⟨Nat.le_refl _, fun _ _ => rfl⟩
theorem hb_ex.tr {σ σ1 σ2 : Nat → Nat} {N N1 N2 : Nat} (h1 : hb_ex σ σ1 N N1) (h2 : hb_ex σ1 σ2 N1 N2) : hb_ex σ σ2 N N2 :=
  ⟨Nat.le_trans h1.1 h2.1, fun p hp => (h2.2 p (fun q => hp ⟨Nat.le_trans h1.1 q.1, q.2⟩)).trans (h1.2 p (fun q => hp ⟨q.1, Nat.lt_of_lt_of_le q.2 h2.1⟩))⟩
def hb_Pc (E : hb_E) (z0 : Heap) (σ : Nat → Nat) (av : List hb_V) (h : hb_H) (N : Nat) : Array Value → State → Prop := fun a U => a = (av.map (hb_cv σ)).toArray ∧ hb_R E z0 σ h N U.heap ∧ hb_K E U ∧ hb_B z0 U
def hb_Qc (E : hb_E) (z0 : Heap) (σ : Nat → Nat) (N : Nat) (o : hb_O) (h' : hb_H) (N' : Nat) : Array Value → State → Outcome → State → Prop := fun _ _ oc t => ∃ (v : Option hb_V) (σ' : Nat → Nat), o = .inl v ∧ oc = .returned (v.map (hb_cv σ')) ∧ hb_ex σ σ' N N' ∧ hb_R E z0 σ' h' N' t.heap
def hb_XC (E : hb_E) (z0 : Heap) (σ : Nat → Nat) (N : Nat) (o : hb_O) (h' : hb_H) (N' : Nat) : String → State → State → Prop := fun X _ t => ∃ σ' : Nat → Nat, o = .inr X ∧ hb_ex σ σ' N N' ∧ hb_R E z0 σ' h' N' t.heap
/-- A CONTRACT: called with av in the named heap h of N cells, y ends as o says (a value, nothing, an exception's name), in the named heap h' of N' cells; frames d, new cells kc of ks slots -/
def hb_M (l : Launch) (y : MethodName) (cc : ByteArray) (nL : Nat) (ret : Option FieldType) (d kc ks : Nat) (av : List hb_V) (h : hb_H) (N : Nat) (o : hb_O) (h' : hb_H) (N' : Nat) : Prop :=
  ∀ (E : hb_E) (z0 : Heap) (σ : Nat → Nat), vx_Met l y (.code y cc nL ret :: hb_ws) (hb_rm d kc ks) (hb_Pc E z0 σ av h N) (hb_Qc E z0 σ N o h' N') (hb_XC E z0 σ N o h' N') kc ks (fun q => z0.size ≤ q)
/-- the fixed surroundings of a body -/
def hb_X (own : String) (cc : ByteArray) (nL : Nat) (ret : Option FieldType) (nm : String) (tb : List ExceptionTableEntry) (E : hb_E) (z0 : Heap) (p : Program) (s : State) (m : MethodId) (args : Array Value) (meth : Method) (c : Code) : Prop :=
  p.tables.exec = Jvm.exec ∧ c.code = cc ∧ c.maxLocals = nL ∧ s.vm.findClass own = some m.cls ∧ (∀ w ∈ hb_ws, w.before args s = true) ∧ hb_K E s ∧ hb_B z0 s ∧ meth.locks = false ∧ meth.sig.returnType = ret ∧ meth.name = nm ∧ c.exceptionTable.toList = tb ∧ z0.size ≤ s.heap.size ∧ ∀ q : Nat, q < z0.size → s.heap[q]? = z0[q]?
def hb_nl (v : hb_V) : Bool := match v with
  | .inr (.inr _) => false
  | _ => true
/-- the locals hold the list, from place 0 on -/
def hb_L (σ : Nat → Nat) (nL : Nat) (lr : Array Slot) (ls : List hb_V) : Prop := lr.size = nL ∧ lv_wf lr ∧ (∀ v ∈ ls, hb_nl v = true) ∧ ∀ (k : Nat) (v : hb_V), ls[k]? = some v → lr[k]? = some (.val (hb_cv σ v))
/-- THE WALK: at pc, with locals ls, operands st, the named heap h of N cells: the body comes to its end o, h', N' -/
def hb_W (l : Launch) (own : String) (cc : ByteArray) (nL : Nat) (ret : Option FieldType) (nm : String) (tb : List ExceptionTableEntry) (E : hb_E) (z0 : Heap) (R : Room) (σ0 : Nat → Nat) (N0 : Nat) (o : hb_O) (h' : hb_H) (N' : Nat) (kc ks pc : Nat) (ls st : List hb_V) (h : hb_H) (N : Nat) : Prop :=
  ∀ (p : Program) (e : Env) (s : State) (m : MethodId) (args : Array Value) (below : List Frame) (meth : Method) (c : Code), hb_X own cc nL ret nm tb E z0 p s m args meth c →
  ∀ (σ : Nat → Nat) (H : Heap) (locs : List Loc) (lr : Array Slot), hb_R E z0 σ h N H → hb_ex σ0 σ N0 N → (∀ x ∈ locs, z0.size ≤ x.base) → hb_L σ nL lr ls →
  W p l e R s m args below meth c H locs kc ks (vx_MQ below (hb_Qc E z0 σ0 N0 o h' N') (hb_XC E z0 σ0 N0 o h' N') args s R.cells R.slots (fun q => z0.size ≤ q)) (F0 m pc lr (st.map (hb_cv σ)))
theorem hb_cat {σ : Nat → Nat} {v : hb_V} (h : hb_nl v = true) : (hb_cv σ v).category = 1 := by
  rcases v with z | (_ | p) | z
  · rfl
  · rfl
  · rfl
  · cases h
theorem hb_blind (E : hb_E) (z0 : Heap) (σ : Nat → Nat) (av : List hb_V) (h : hb_H) (N : Nat) : FrameBlind (hb_Pc E z0 σ av h N) := by
  intro a U g mk q
  obtain ⟨q0, q1, q2, q3⟩ := q
  refine ⟨q0, q1, hb_K.moved (u := U) (U := U.calling g mk a) (Vm.Alike.refl U.vm) q2, ?_⟩
  exact hb_B.moved (s := U) (U := U.calling g mk a) (State.WarmedH.refl U) q3

theorem hb_i64 {z : Int} (h : hb_in z) : (Int32.ofInt z).toInt64 = Int64.ofInt z := by
  apply Int64.toInt_inj.mp
  rw [Int32.toInt_toInt64, hb_ti h, Int64.toInt_ofInt_of_le (by omega) (by omega)]
section HBX
variable {l : Launch} {own : String} {cc : ByteArray} {nL : Nat} {ret : Option FieldType} {nm : String} {tb : List ExceptionTableEntry} {E : hb_E} {z0 : Heap} {R : Room} {σ0 : Nat → Nat} {N0 : Nat} {o : hb_O} {h' : hb_H} {N' : Nat} {kc ks pc : Nat} {ls st : List hb_V} {h : hb_H} {N : Nat}
theorem hb_L.skip {σ : Nat → Nat} {lr lr2 : Array Slot} {i : Nat} {w : Value} (hL : hb_L σ nL lr ls) (hi : ls.length ≤ i) (hs : lv_has lr2 nL ((i, w) :: (hb_lv σ ls).filter (fun q => !(q.1 == i) && !(q.1 + 1 == i && q.2.category == 2)))) : hb_L σ nL lr2 ls := by
  refine ⟨hs.1, hs.2.1, hL.2.2.1, fun k v h3 => ?_⟩
  have hl := (List.getElem?_eq_some_iff.mp h3).1
  have hne : k ≠ i := by omega
  refine hs.2.2 (k, hb_cv σ v) (List.mem_cons_of_mem _ (List.mem_filter.mpr ⟨?_, ?_⟩))
  · refine List.mem_map.mpr ⟨k, List.mem_range.mpr hl, ?_⟩
    rw [List.getD_eq_getElem?_getD, h3]
    rfl
  · have hc := hb_cat (σ := σ) (hL.2.2.1 v (List.mem_of_getElem? h3))
    simp [hc, hne]
/-- the walk with an unnamed reference on the stack, and nothing else -/
def hb_Wu (l : Launch) (own : String) (cc : ByteArray) (nL : Nat) (ret : Option FieldType) (nm : String) (tb : List ExceptionTableEntry) (E : hb_E) (z0 : Heap) (R : Room) (σ0 : Nat → Nat) (N0 : Nat) (o : hb_O) (h' : hb_H) (N' : Nat) (kc ks pc : Nat) (ls : List hb_V) (h : hb_H) (N : Nat) : Prop :=
  ∀ (p : Program) (e : Env) (s : State) (m : MethodId) (args : Array Value) (below : List Frame) (meth : Method) (c : Code), hb_X own cc nL ret nm tb E z0 p s m args meth c →
  ∀ (σ : Nat → Nat) (H : Heap) (locs : List Loc) (lr : Array Slot) (q9 : Nat), hb_R E z0 σ h N H → hb_ex σ0 σ N0 N → (∀ x ∈ locs, z0.size ≤ x.base) → hb_L σ nL lr ls →
  W p l e R s m args below meth c H locs kc ks (vx_MQ below (hb_Qc E z0 σ0 N0 o h' N') (hb_XC E z0 σ0 N0 o h' N') args s R.cells R.slots (fun q => z0.size ≤ q)) (F0 m pc lr [.ref q9])
theorem aw_ux0 (hd : decode cc pc = .ok (.astore_n 0, 1)) (hn : 0 < nL) (hi : ls.length ≤ 0) (k : hb_W l own cc nL ret nm tb E z0 R σ0 N0 o h' N' kc ks (pc + 1) ls [] h N) : hb_Wu l own cc nL ret nm tb E z0 R σ0 N0 o h' N' kc ks pc ls h N := by
  intro p e s m args below meth c X σ H locs lr q9 hR hex hlo hL
  exact lv_astore_n X.1 X.2.1 hd rfl hL.has hn rfl (fun lr2 hs => k p e s m args below meth c X σ H locs lr2 hR hex hlo (hL.skip hi hs))
theorem aw_ux1 (hd : decode cc pc = .ok (.astore_n 1, 1)) (hn : 1 < nL) (hi : ls.length ≤ 1) (k : hb_W l own cc nL ret nm tb E z0 R σ0 N0 o h' N' kc ks (pc + 1) ls [] h N) : hb_Wu l own cc nL ret nm tb E z0 R σ0 N0 o h' N' kc ks pc ls h N := by
  intro p e s m args below meth c X σ H locs lr q9 hR hex hlo hL
  exact lv_astore_n X.1 X.2.1 hd rfl hL.has hn rfl (fun lr2 hs => k p e s m args below meth c X σ H locs lr2 hR hex hlo (hL.skip hi hs))
theorem aw_ux2 (hd : decode cc pc = .ok (.astore_n 2, 1)) (hn : 2 < nL) (hi : ls.length ≤ 2) (k : hb_W l own cc nL ret nm tb E z0 R σ0 N0 o h' N' kc ks (pc + 1) ls [] h N) : hb_Wu l own cc nL ret nm tb E z0 R σ0 N0 o h' N' kc ks pc ls h N := by
  intro p e s m args below meth c X σ H locs lr q9 hR hex hlo hL
  exact lv_astore_n X.1 X.2.1 hd rfl hL.has hn rfl (fun lr2 hs => k p e s m args below meth c X σ H locs lr2 hR hex hlo (hL.skip hi hs))
theorem aw_ux3 (hd : decode cc pc = .ok (.astore_n 3, 1)) (hn : 3 < nL) (hi : ls.length ≤ 3) (k : hb_W l own cc nL ret nm tb E z0 R σ0 N0 o h' N' kc ks (pc + 1) ls [] h N) : hb_Wu l own cc nL ret nm tb E z0 R σ0 N0 o h' N' kc ks pc ls h N := by
  intro p e s m args below meth c X σ H locs lr q9 hR hex hlo hL
  exact lv_astore_n X.1 X.2.1 hd rfl hL.has hn rfl (fun lr2 hs => k p e s m args below meth c X σ H locs lr2 hR hex hlo (hL.skip hi hs))
theorem aw_ux {i : Nat} (hd : decode cc pc = .ok (.astore i, 2)) (hn : i < nL) (hi : ls.length ≤ i) (k : hb_W l own cc nL ret nm tb E z0 R σ0 N0 o h' N' kc ks (pc + 2) ls [] h N) : hb_Wu l own cc nL ret nm tb E z0 R σ0 N0 o h' N' kc ks pc ls h N := by
  intro p e s m args below meth c X σ H locs lr q9 hR hex hlo hL
  exact lv_astore X.1 X.2.1 hd hL.has hn rfl (fun lr2 hs => k p e s m args below meth c X σ H locs lr2 hR hex hlo (hL.skip hi hs))
theorem aw_callVc {ix d mc ms ny : Nat} {y : MethodName} {cy : ByteArray} {ry : Option FieldType} {As rest : List hb_V} {Xn : String} {h2 : hb_H} {N2 : Nat} {ci q n : Nat} {C name : String} {T : u_T} {fs : List hb_V} (pre : List ExceptionTableEntry) (x : ExceptionTableEntry) (suf : List ExceptionTableEntry) (hd : decode cc pc = .ok (.invokevirtual ix, 3)) (hM : hb_M l y cy ny ry d mc ms (hb_r q :: As) h N (.inr Xn) h2 N2) (hq : h q = .inl (ci, fs)) (hcl : vwCl[ci]? = some (C, T, n)) (hy : hb_Y y cy ny ry As.length) (hlk : Cond.methodLink own ix y ∈ hb_ws) (hin : Cond.instanceMethod y ∈ hb_ws) (hse : Cond.selects C y y ∈ hb_ws)
    (hcs : hb_cs rest ≤ 8) (hro : d + 1 ≤ R.frames ∧ 8 + (ny + 11) + 36 * d ≤ R.locals) (hkc : kc + mc ≤ R.cells) (hks : ks + ms ≤ R.slots) (hl9 : hb_nw N N2 ls)
    (htb : tb = pre ++ x :: suf) (hpass : ∀ z ∈ pre, covers z pc = false ∨ (z.catchType ≠ 0 ∧ ∃ nm9 : String, Cond.classLink own z.catchType nm9 ∈ hb_ws ∧ ∀ U : State, hb_B0 U → va_Nc Xn nm9 U)) (hx : covers x pc = true) (h0 : x.catchType ≠ 0) (hlink : Cond.classLink own x.catchType name ∈ hb_ws) (hcast : ∀ U : State, hb_B0 U → va_Nw (.castable Xn name) U)
    (k : hb_Wu l own cc nL ret nm tb E z0 R σ0 N0 o h' N' (kc + mc) (ks + ms) x.handlerPc ls h2 N2) : hb_W l own cc nL ret nm tb E z0 R σ0 N0 o h' N' kc ks pc ls (As.reverse ++ hb_r q :: rest) h N := by
  intro p e s m args below meth c X σ H locs lr hR hex hlo hL
  have hne : (.inl (ci, fs) : hb_C) ≠ hb_junk := fun e9 => by
    have e8 : ci = 99 := congrArg Prod.fst (Sum.inl.inj e9)
    subst e8; cases hcl
  have hat := (hR.2.1 q (hR.lt hq hne)).2.1
  rw [hq] at hat
  obtain ⟨r, a1, a2, cell, g1, g2, g3, -⟩ := hat
  have hcls := (X.2.2.2.2.2.1.1.1 ci _ hcl).2
  have hts := X.2.2.2.2.1
  have hB0 := X.2.2.2.2.2.2.1.1.2
  have hrun := vx_runV (e := e) (below := below) (meth := meth) (locs := locs) (cells := kc) (slots := ks) (g := F0 m pc lr ((As.reverse ++ hb_r q :: rest).map (hb_cv σ))) (b := σ q) (As := As.map (hb_cv σ)) (rest := rest.map (hb_cv σ)) (H := H) (Ts := hb_ws) (nL := nL) (cc := cc) ⟨X.1, X.2.1, X.2.2.1, X.2.2.2.1, hts⟩ (hM E z0 σ) ⟨hb_callB hts hy hlk hro, hts _ hin, hts _ hse⟩ ⟨hb_blind E z0 σ _ h N, ⟨cell, g1, by rw [g3]; rfl, by rw [g2]; exact hcls.1⟩, fun U hU hW => ⟨rfl, by rw [hU]; exact hR, hb_K.moved hW.alike X.2.2.2.2.2.1, hb_B.moved hW X.2.2.2.2.2.2.1⟩⟩ rfl (by rw [List.length_map]) hL.1 (by simp [hb_cv]) (by show 2 * 0 + _ ≤ 8; rw [hb_cs_eq]; omega) hd ⟨hkc, hks⟩
  intro T9 hT X9
  rcases hrun T9 hT X9 with ⟨v9, st₀, t, T', L, h0, X', hL9, e1, e2, ⟨v2, σ', ho, -⟩, stp⟩ | ⟨q1, st₀, t, T', L, E9, ce, h01, X', hL9, e1, e2, ⟨σ', ho, hex2, hR2⟩, hce, hcv, hcl9, stp⟩
  · cases ho
  · cases Sum.inr.inj ho
    obtain ⟨t2, b1, b2⟩ := vx_catch (H := T'.heap) (E := Xn) (ce := ce) (q := q1) (rest := rest.map (hb_cv σ)) X.2.2.2.1 pre x suf (X.2.2.2.2.2.2.2.2.2.2.1.trans htb) (fun z hz => (hpass z hz).elim Or.inl (fun h9 => Or.inr ⟨h9.1, h9.2.choose, hts _ h9.2.choose_spec.1, h9.2.choose_spec.2 s hB0⟩)) hx h0 (hts _ hlink) (va_Nw.use rfl (hcast s hB0)) (by rw [e1]; exact hce) hcv hcl9
      (k p e s m args below meth c X σ' T'.heap (locs ++ L) lr q1 (by rw [e1]; exact hR2) (hex.tr hex2) (fun x hx => (List.mem_append.mp hx).elim (hlo x) (hL9 x)) (hL.sig (fun p hp => hex2.2 p (hl9 p hp)))) T' rfl X'
    exact ⟨t2, stp.trans b1, b2⟩
theorem aw_i2l {z : Int} (hd : decode cc pc = .ok (.i2l, 1)) (hz : hb_in z) (k : hb_W l own cc nL ret nm tb E z0 R σ0 N0 o h' N' kc ks (pc + 1) ls (hb_l z :: st) h N) : hb_W l own cc nL ret nm tb E z0 R σ0 N0 o h' N' kc ks pc ls (hb_i z :: st) h N := by
  intro p e s m args below meth c X σ H locs lr hR hex hlo hL
  exact lv_i2l X.1 X.2.1 hd (hb_i64 hz) (k p e s m args below meth c X σ H locs lr hR hex hlo hL)
theorem aw_lcmp {z : Int} (hd : decode cc pc = .ok (.lcmp, 1)) (k : hb_W l own cc nL ret nm tb E z0 R σ0 N0 o h' N' kc ks (pc + 1) ls (hb_i 0 :: st) h N) : hb_W l own cc nL ret nm tb E z0 R σ0 N0 o h' N' kc ks pc ls (hb_l z :: hb_l z :: st) h N := by
  intro p e s m args below meth c X σ H locs lr hR hex hlo hL
  intro T hT X9
  obtain ⟨t, a1, b1⟩ := (k p e s m args below meth c X σ H locs lr hR hex hlo hL) T hT X9
  exact ⟨t, X9.lcmpEq X.1 (by rw [X.2.1]; exact hd) _ a1, b1⟩
/-- A CONTRACT of a method with a table of catches -/
def hb_MH (l : Launch) (y : MethodName) (cc : ByteArray) (nL : Nat) (ret : Option FieldType) (hh : List (Nat × Nat × Nat × Nat)) (d kc ks : Nat) (av : List hb_V) (h : hb_H) (N : Nat) (o : hb_O) (h' : hb_H) (N' : Nat) : Prop :=
  ∀ (E : hb_E) (z0 : Heap) (σ : Nat → Nat), vx_Met l y (.codeWith y cc nL ret hh :: hb_ws) (hb_rm d kc ks) (hb_Pc E z0 σ av h N) (hb_Qc E z0 σ N o h' N') (hb_XC E z0 σ N o h' N') kc ks (fun q => z0.size ≤ q)
theorem hb_MH_in {y : MethodName} {cy : ByteArray} {ny : Nat} {ry : Option FieldType} {hh : List (Nat × Nat × Nat × Nat)} {d mc ms : Nat} {av : List hb_V} {h2 : hb_H} {N2 : Nat} (ey : y.cls = own) (en : y.name = nm) (hy : plainName y.cls = true) (hnl : av.all hb_nl = true) (hlen : av.length ≤ ny)
    (body : ∀ (E : hb_E) (z0 : Heap) (σ0 : Nat → Nat), hb_W l own cy ny ry nm (tableOf hh) E z0 (hb_rm d mc ms) σ0 N o h2 N2 0 0 0 av [] h N) : hb_MH l y cy ny ry hh d mc ms av h N o h2 N2 := by
  subst ey; subst en
  replace hnl : ∀ v ∈ av, hb_nl v = true := fun v hv => List.all_eq_true.mp hnl v hv
  intro E z0 σ
  refine vx_ofWH (cc := cy) (maxL := ny) (ret := ry) (hh := hh) hy rfl ?_
  intro p e s m args below meth c s₁ B hml hv
  obtain ⟨rfl, hR, hK, hB⟩ := hv
  have hts := atoms_spec (ws := Cond.codeWith y cy ny ry hh :: hb_ws) B.pre
  have htab := vx_table (x := y) B (hts _ List.mem_cons_self)
  have hsl : lg_sl (av.map (hb_cv σ)) = av.map (fun v => Slot.val (hb_cv σ v)) := by
    unfold lg_sl
    clear hR hlen body B hts htab
    induction av with
    | nil => rfl
    | cons v tl ih =>
      rw [List.map_cons, List.flatMap_cons, ih (fun w hw => hnl w (List.mem_cons_of_mem _ hw)), if_neg (by rw [hb_cat (hnl v List.mem_cons_self)]; decide)]
      rfl
  have hl := lv_entry (av.map (hb_cv σ)) (n := ny) (by rw [hsl, List.length_map]; exact hlen)
  rw [lg_entry_eq]
  have hl2 : ∀ (k : Nat) (v : hb_V), av[k]? = some v → ((lg_sl (av.map (hb_cv σ)) ++ List.replicate (ny - (lg_sl (av.map (hb_cv σ))).length) Slot.unset).toArray)[k]? = some (.val (hb_cv σ v)) := by
    intro k v hk
    have hk2 := (List.getElem?_eq_some_iff.mp hk).1
    rw [List.getElem?_toArray, hsl, List.getElem?_append_left (by rw [List.length_map]; exact hk2), List.getElem?_map, hk]
    rfl
  generalize (lg_sl (av.map (hb_cv σ)) ++ List.replicate (ny - (lg_sl (av.map (hb_cv σ))).length) Slot.unset).toArray = lr at hl hl2 ⊢
  exact body E z0 σ p e s m _ below meth c ⟨B.exec, B.bytes, hml, findClass_of_methodNamed B.named, fun w hw => hts w (List.mem_cons_of_mem _ hw), hK, hB, B.notSynchronized, B.returns, (name_of_methodNamed B.named B.method).1, htab, hR.1⟩ σ s.heap [] lr hR hb_ex.rf (fun _ h9 => nomatch h9) ⟨hl.1, hl.2.1, hnl, hl2⟩
def hb_YH (y : MethodName) (cy : ByteArray) (ny : Nat) (ry : Option FieldType) (hh : List (Nat × Nat × Nat × Nat)) (na : Nat) : Prop := Cond.codeWith y cy ny ry hh ∈ hb_ws ∧ Cond.initialized y.cls ∈ hb_ws ∧ y.cls ≠ "java/lang/invoke/MethodHandle" ∧ y.cls ≠ "java/lang/invoke/VarHandle" ∧ (parseMethodDescriptor y.desc).map (fun d => d.parameters.length) = some na
theorem aw_SH {ix d mc ms ny : Nat} {y : MethodName} {cy : ByteArray} {ry : Option FieldType} {hh : List (Nat × Nat × Nat × Nat)} {As rest : List hb_V} {v : Option hb_V} {h2 : hb_H} {N2 : Nat} (hd : decode cc pc = .ok (.invokestatic ix, 3)) (hM : hb_MH l y cy ny ry hh d mc ms As h N (.inl v) h2 N2) (hy : hb_YH y cy ny ry hh As.length) (hlk : Cond.methodLink own ix y ∈ hb_ws) (hst : Cond.static y ∈ hb_ws) (hcs : hb_cs rest ≤ 8) (hro : d + 1 ≤ R.frames ∧ 8 + (ny + 11) + 36 * d ≤ R.locals) (hkc : kc + mc ≤ R.cells) (hks : ks + ms ≤ R.slots) (hl9 : hb_nw N N2 ls) (hs9 : hb_nw N N2 rest) (k : hb_W l own cc nL ret nm tb E z0 R σ0 N0 o h' N' (kc + mc) (ks + ms) (pc + 3) ls (v.toList ++ rest) h2 N2) : hb_W l own cc nL ret nm tb E z0 R σ0 N0 o h' N' kc ks pc ls (As.reverse ++ rest) h N := by
  intro p e s m args below meth c X σ H locs lr hR hex hlo hL
  have hts := X.2.2.2.2.1
  have hg : GoodIn hb_ws (va_wsS own ix y (.codeWith y cy ny ry hh :: hb_ws)) := by
    intro w hw
    unfold va_wsS at hw
    rcases List.mem_append.mp hw with h8 | h8
    · simp only [List.mem_cons, List.not_mem_nil, or_false] at h8
      rcases h8 with rfl | rfl | rfl
      · exact hb_ws_good _ hlk
      · exact hb_ws_good _ hst
      · exact hb_ws_good _ hy.2.1
    · rcases List.mem_cons.mp h8 with e9 | h9
      · subst e9; exact hb_ws_good _ hy.1
      · exact hb_ws_good w h9
  have hrun := vx_runSW (e := e) (below := below) (meth := meth) (locs := locs) (cells := kc) (slots := ks) (g := F0 m pc lr ((As.reverse ++ rest).map (hb_cv σ))) (As := As.map (hb_cv σ)) (rest := rest.map (hb_cv σ)) (H := H) (Ts := hb_ws) (nL := nL) (cc := cc) ⟨X.1, X.2.1, X.2.2.1, X.2.2.2.1, hts⟩ (hb_Met_of (hM E z0 σ) (fun Ex st t h9 => by obtain ⟨σ9, h8, -⟩ := h9; cases h8)) (vx_cwSW As.length hts hg rfl rfl rfl ⟨hy.2.2.1, hy.2.2.2.1, hy.2.2.2.2⟩ hro) ⟨hb_blind E z0 σ _ h N, fun U hU hW => ⟨rfl, by rw [hU]; exact hR, hb_K.moved hW.alike X.2.2.2.2.2.1, hb_B.moved hW X.2.2.2.2.2.2.1⟩⟩ rfl (by rw [List.length_map]) hL.1 (by simp) (by show 2 * 0 + _ ≤ 8; rw [hb_cs_eq]; omega) hd ⟨hkc, hks⟩
  exact hb_after X hex hlo hL hrun hl9 hs9 k
end HBX

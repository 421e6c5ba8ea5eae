def hb_up (h : hb_H) (q : Nat) (c : hb_C) : hb_H := fun p => if p = q then c else h p
def hb_uf {α : Type} (f : Int → α) (i : Int) (v : α) : Int → α := fun j => if j = i then v else f j
theorem hb_up_s (h : hb_H) (q : Nat) (c : hb_C) : hb_up h q c q = c := if_pos rfl
theorem hb_up_n {h : hb_H} {q p : Nat} {c : hb_C} (e : p ≠ q) : hb_up h q c p = h p := if_neg e
theorem hb_at.kept {E : hb_E} {σ : Nat → Nat} {a : Nat} {c : hb_C} {H H2 : Heap} (h : hb_at E σ a c H) (e : H2[a]? = H[a]?) : hb_at E σ a c H2 := by
  rcases c with ⟨ci, fs⟩ | ⟨k, n, f⟩ | ⟨k, n, f⟩
  · obtain ⟨r, h1, h2, h3⟩ := h
    exact ⟨r, h1, h2, h3.kept e⟩
  · exact e.trans h
  · exact e.trans h
theorem hb_at.lt {E : hb_E} {σ : Nat → Nat} {a : Nat} {c : hb_C} {H : Heap} (h : hb_at E σ a c H) : a < H.size := by
  rcases c with ⟨ci, fs⟩ | ⟨k, n, f⟩ | ⟨k, n, f⟩
  · obtain ⟨r, h1, h2, cell, h3, -⟩ := h
    exact (Array.getElem?_eq_some_iff.mp h3).1
  · exact (Array.getElem?_eq_some_iff.mp h).1
  · exact (Array.getElem?_eq_some_iff.mp h).1
theorem hb_cv_sig {σ σ2 : Nat → Nat} {v : hb_V} (h : ∀ p, v = hb_r p → σ2 p = σ p) : hb_cv σ2 v = hb_cv σ v := by
  rcases v with z | (_ | p) | z
  · rfl
  · rfl
  · show Value.ref (σ2 p) = Value.ref (σ p)
    rw [h p rfl]
  · rfl
theorem hb_map_sig {σ σ2 : Nat → Nat} {vs : List hb_V} (h : ∀ p, hb_r p ∈ vs → σ2 p = σ p) : vs.map (hb_cv σ2) = vs.map (hb_cv σ) :=
  List.map_congr_left fun v hv => hb_cv_sig fun p e => h p (e ▸ hv)
theorem hb_arr_congr {cA : ClassId} {n : Nat} {f g : Nat → Value} (h : ∀ j, j < n → f j = g j) : arrV cA n f = arrV cA n g := by
  unfold arrV
  congr 1
  apply Array.ext
  · simp
  · intro i h1 h2
    simp at h1
    simp [h i h1]
theorem hb_at.sig {E : hb_E} {σ σ2 : Nat → Nat} {a N : Nat} {c : hb_C} {H : Heap} (hc : hb_cl N c) (hs : ∀ p, p < N → σ2 p = σ p) (h : hb_at E σ a c H) : hb_at E σ2 a c H := by
  rcases c with ⟨ci, fs⟩ | ⟨k, n, f⟩ | ⟨k, n, f⟩
  · obtain ⟨r, h1, h2, h3⟩ := h
    exact ⟨r, h1, h2, by rw [hb_map_sig (fun p hp => hs p (hc p hp))]; exact h3⟩
  · exact h
  · refine Eq.trans h (congrArg some (hb_arr_congr fun j hj => ?_))
    refine (hb_cv_sig fun p e => ?_).symm
    exact hs p (hc j p hj (by simpa using e))
theorem hb_cl.mono {N N2 : Nat} {c : hb_C} (hN : N ≤ N2) (h : hb_cl N c) : hb_cl N2 c := by
  rcases c with ⟨ci, fs⟩ | ⟨k, n, f⟩ | ⟨k, n, f⟩
  · exact fun p hp => Nat.lt_of_lt_of_le (h p hp) hN
  · trivial
  · exact fun j p hj hp => Nat.lt_of_lt_of_le (h j p hj hp) hN
theorem hb_R.lt {E : hb_E} {z0 : Heap} {σ : Nat → Nat} {h : hb_H} {N : Nat} {H : Heap} (hR : hb_R E z0 σ h N H) {q : Nat} {c : hb_C} (hq : h q = c) (hc : c ≠ hb_junk) : q < N :=
  Nat.lt_of_not_le fun e => hc (hq.symm.trans (hR.2.2.2 q e))
theorem hb_R.upd {E : hb_E} {z0 : Heap} {σ : Nat → Nat} {h : hb_H} {N : Nat} {H H2 : Heap} (hR : hb_R E z0 σ h N H) {q : Nat} {c : hb_C} (hq : q < N) (hat : hb_at E σ (σ q) c H2) (hcl : hb_cl N c) (hsz : H2.size = H.size) (hof : ∀ a, a ≠ σ q → H2[a]? = H[a]?) : hb_R E z0 σ (hb_up h q c) N H2 := by
  obtain ⟨⟨b1, b2⟩, b3, b4, b5⟩ := hR
  have hz := (b3 q hq).1
  refine ⟨⟨by rw [hsz]; exact b1, fun a ha => ?_⟩, fun p hp => ?_, b4, fun p hp => ?_⟩
  · rw [hof a (by omega)]; exact b2 a ha
  · by_cases e : p = q
    · subst e
      rw [hb_up_s]
      exact ⟨hz, hat, hcl⟩
    · rw [hb_up_n e]
      exact ⟨(b3 p hp).1, (b3 p hp).2.1.kept (hof _ (fun x => e (b4 p q hp hq x))), (b3 p hp).2.2⟩
  · rw [hb_up_n (by omega)]; exact b5 p hp
def hb_sg (σ : Nat → Nat) (N a : Nat) : Nat → Nat := fun p => if p = N then a else σ p
theorem hb_R.alloc {E : hb_E} {z0 : Heap} {σ : Nat → Nat} {h : hb_H} {N : Nat} {H H2 : Heap} (hR : hb_R E z0 σ h N H) {c : hb_C} (hat : hb_at E (hb_sg σ N H.size) H.size c H2) (hcl : hb_cl (N + 1) c) (hsz : H2.size = H.size + 1) (hof : ∀ a, a < H.size → H2[a]? = H[a]?) : hb_R E z0 (hb_sg σ N H.size) (hb_up h N c) (N + 1) H2 := by
  obtain ⟨⟨b1, b2⟩, b3, b4, b5⟩ := hR
  have hs : ∀ p, p < N → hb_sg σ N H.size p = σ p := fun p hp => if_neg (by omega)
  have hn : hb_sg σ N H.size N = H.size := if_pos rfl
  refine ⟨⟨by omega, fun a ha => by rw [hof a (by omega)]; exact b2 a ha⟩, fun p hp => ?_, fun p q hp hq e => ?_, fun p hp => ?_⟩
  · by_cases e : p = N
    · subst e
      rw [hb_up_s, hn]
      exact ⟨b1, hat, hcl⟩
    · have hp2 : p < N := by omega
      rw [hb_up_n e, hs p hp2]
      exact ⟨(b3 p hp2).1, ((b3 p hp2).2.1.sig (b3 p hp2).2.2 hs).kept (hof _ (b3 p hp2).2.1.lt), (b3 p hp2).2.2.mono (by omega)⟩
  · by_cases e1 : p = N
    · by_cases e2 : q = N
      · omega
      · subst e1
        rw [hn, hs q (by omega)] at e
        have := (b3 q (by omega)).2.1.lt
        omega
    · by_cases e2 : q = N
      · subst e2
        rw [hn, hs p (by omega)] at e
        have := (b3 p (by omega)).2.1.lt
        omega
      · rw [hs p (by omega), hs q (by omega)] at e
        exact b4 p q (by omega) (by omega) e
  · rw [hb_up_n (by omega)]; exact b5 p (by omega)
/-- names of a list that no new cell gets -/
def hb_nw (N N2 : Nat) (vs : List hb_V) : Prop := ∀ p, hb_r p ∈ vs → ¬ (N ≤ p ∧ p < N2)
theorem hb_nw.rf {N : Nat} {vs : List hb_V} : hb_nw N N vs := fun _ _ h => by omega
theorem hb_L.sig {σ σ2 : Nat → Nat} {nL : Nat} {lr : Array Slot} {ls : List hb_V} (hL : hb_L σ nL lr ls) (h : ∀ p, hb_r p ∈ ls → σ2 p = σ p) : hb_L σ2 nL lr ls :=
  ⟨hL.1, hL.2.1, hL.2.2.1, fun k v hk => by rw [hb_cv_sig (fun p e => h p (e ▸ List.mem_of_getElem? hk))]; exact hL.2.2.2 k v hk⟩
def hb_cs (vs : List hb_V) : Nat := match vs with
  | [] => 0
  | v :: tl => (if hb_nl v then 1 else 2) + hb_cs tl
theorem hb_cs_eq (σ : Nat → Nat) : ∀ (vs : List hb_V), ((vs.map (hb_cv σ)).map fun v => v.category).sum = hb_cs vs
  | [] => rfl
  | v :: tl => by
    simp only [List.map_cons, List.sum_cons, hb_cs]
    rw [← hb_cs_eq σ tl, List.map_map]
    congr 1
    rcases v with z | (_ | p) | z <;> rfl
/-- a field, by the place of its link, its class and its slot -/
def hb_fld (own : String) (ix ci j : Nat) : Prop := ∃ (C : String) (T : u_T) (n : Nat), vwCl[ci]? = some (C, T, n) ∧ j < n ∧ (∀ w ∈ u_ws C T n, w ∈ hb_ws) ∧ Cond.fieldLink own ix (T j).1 (T j).2.1 (T j).2.2.1 ∈ hb_ws
/-- a class's fields, as stores want them -/
def hb_fls (ci : Nat) : Prop := ∃ (C : String) (T : u_T) (n : Nat) (ty : Nat → FieldType), vwCl[ci]? = some (C, T, n) ∧ (∀ w ∈ u_ws C T n, w ∈ hb_ws) ∧ (∀ k, k < n → parseFieldDescriptor (T k).2.2.1 = some (ty k)) ∧ (∀ a, a < n → ∀ b, b < n → a ≠ b → (T a).2.1 ≠ (T b).2.1)
def hb_flw (own : String) (ci j : Nat) (fin : Bool) (t : FieldType) : Prop := ∀ (C : String) (T : u_T) (n : Nat), vwCl[ci]? = some (C, T, n) → (T j).2.2.2 = fin ∧ parseFieldDescriptor (T j).2.2.1 = some t ∧ (fin = true → (T j).1 = own)
def hb_Y (y : MethodName) (cy : ByteArray) (ny : Nat) (ry : Option FieldType) (na : Nat) : Prop := Cond.code y cy ny ry ∈ hb_ws ∧ Cond.initialized y.cls ∈ hb_ws ∧ y.cls ≠ "java/lang/invoke/MethodHandle" ∧ y.cls ≠ "java/lang/invoke/VarHandle" ∧ (parseMethodDescriptor y.desc).map (fun d => d.parameters.length) = some na
theorem hb_natI (n : Nat) : n.toInt32 = Int32.ofInt (n : Int) := by
  first | rfl | exact (Int32.ofInt_eq_ofNat).symm | (apply Int32.toBitVec_inj.mp; simp [Int32.ofInt])
section HBH
variable {l : Launch} {own : String} {cc : ByteArray} {nL : Nat} {ret : Option FieldType} {nm : String} {tb : List ExceptionTableEntry} {E : hb_E} {z0 : Heap} {R : Room} {σ0 : Nat → Nat} {N0 : Nat} {o : hb_O} {h' : hb_H} {N' : Nat} {kc ks pc : Nat} {ls st : List hb_V} {h : hb_H} {N : Nat}
theorem aw_getf {ix ci j q : Nat} {fs : List hb_V} {v : hb_V} (hd : decode cc pc = .ok (.getfield ix, 3)) (hf : hb_fld own ix ci j) (hq : h q = .inl (ci, fs)) (hv : fs[j]? = some v) (k : hb_W l own cc nL ret nm tb E z0 R σ0 N0 o h' N' kc ks (pc + 3) ls (v :: st) h N) : hb_W l own cc nL ret nm tb E z0 R σ0 N0 o h' N' kc ks pc ls (hb_r q :: st) h N := by
  intro p e s m args below meth c X σ H locs lr hR hex hlo hL
  obtain ⟨C, T, n, c1, c2, c3, c4⟩ := hf
  have hne : (.inl (ci, fs) : hb_C) ≠ hb_junk := fun e9 => by
    have e8 : ci = 99 := congrArg Prod.fst (Sum.inl.inj e9)
    subst e8; cases c1
  have hat := (hR.2.1 q (hR.lt hq hne)).2.1
  rw [hq] at hat
  obtain ⟨r, a1, a2, a3⟩ := hat
  have hP : va_P E.1 vwCl [(σ q, .inr (ci, fs.map (hb_cv σ)))] H := fun k9 q9 h9 => by
    match k9, h9 with
    | 0, h9 => cases h9; exact ⟨r, a1, a3⟩
  exact va_get (D := E.1) (ci := ci) (v := hb_cv σ v) (C := C) (T := T) (N := n) X.1 X.2.1 X.2.2.2.2.1 c3 X.2.2.2.1 X.2.2.2.2.2.1.1 hP 0 rfl c1 j c2 (X.2.2.2.2.1 _ c4) (fun _ h9 => h9) (by rw [List.getElem?_map, hv]; rfl) hd (k p e s m args below meth c X σ H locs lr hR hex hlo hL)
theorem aw_putf {ix ci j q : Nat} {fs : List hb_V} {v : hb_V} {t : FieldType} (hd : decode cc pc = .ok (.putfield ix, 3)) (hf : hb_fld own ix ci j) (hs : hb_fls ci) (hw : hb_flw own ci j false t) (hq : h q = .inl (ci, fs)) (hvt : ∀ σ, narrow t (hb_cv σ v) = hb_cv σ v ∧ fits t (hb_cv σ v) = true) (hvN : ∀ p, v = hb_r p → p < N) (k : hb_W l own cc nL ret nm tb E z0 R σ0 N0 o h' N' kc ks (pc + 3) ls st (hb_up h q (.inl (ci, fs.set j v))) N) : hb_W l own cc nL ret nm tb E z0 R σ0 N0 o h' N' kc ks pc ls (v :: hb_r q :: st) h N := by
  intro p e s m args below meth c X σ H locs lr hR hex hlo hL
  obtain ⟨C, T, n, c1, c2, c3, c4⟩ := hf
  obtain ⟨C', T', n', ty, d1, d2, d3, d4⟩ := hs
  cases Option.some.inj (c1.symm.trans d1)
  obtain ⟨w1, w2, w3⟩ := hw C T n c1
  have hne : (.inl (ci, fs) : hb_C) ≠ hb_junk := fun e9 => by
    have e8 : ci = 99 := congrArg Prod.fst (Sum.inl.inj e9)
    subst e8; cases c1
  have hqN := hR.lt hq hne
  obtain ⟨hz, hat, hcl⟩ := hR.2.1 q hqN
  rw [hq] at hat hcl
  obtain ⟨r, a1, a2, a3⟩ := hat
  cases Option.some.inj (c1.symm.trans a1)
  have hP : va_P E.1 vwCl [(σ q, .inr (ci, fs.map (hb_cv σ)))] H := fun k9 q9 h9 => by
    match k9, h9 with
    | 0, h9 => cases h9; exact ⟨_, c1, a3⟩
  have hap := va_apart (own := own) X.2.2.2.2.1 d2 ty d3 d4 X.2.2.2.2.2.1.1 c1
  obtain ⟨cell, q1, q2, q3, q4⟩ := a3
  obtain ⟨hS, hfc, kC, hkC, hkind⟩ := X.2.2.2.2.2.1.1.1 ci _ c1
  obtain ⟨cf, kf, fi, f, hi, hsl⟩ := hS j c2
  have hlay := X.2.2.2.2.1 _ (c3 _ (u_in_lay c2))
  unfold u_lay at hlay
  rw [if_neg (by rw [w1]; decide)] at hlay
  have hst := (u_facts hfc hkC (u_lays X.2.2.2.2.1 c3 c2) hi).1
  have h6 := u_store hfc hkC hkind hlay hi w2 (hvt σ).1 (hvt σ).2
  refine W.putK X.1 X.2.1 (f := f) ⟨X.2.2.2.1, X.2.2.2.2.1 _ c4, ⟨_, _, _, hi⟩, hst⟩ (by rw [q2]; exact h6) q1 q3 (by rw [hsl]; exact k2_hasslot (q4 j c2)) rfl rfl hd fun H2 e1 e2 e3 => ?_
  rw [hsl] at e1 ⊢
  refine k p e s m args below meth c X σ H2 _ lr ?_ hex (fun x hx => by
    rcases List.mem_append.mp hx with h9 | h9
    · exact hlo x h9
    · rw [List.mem_singleton.mp h9]; exact hz) hL
  refine hR.upd hqN ⟨_, c1, by rw [List.length_set]; exact a2, ?_⟩ (fun p9 hp9 => ?_) e2 e3
  · refine t_OB.to (V := updV (vp_V (fs.map (hb_cv σ))) j (hb_cv σ v)) ⟨_, e1, q2, q3, t_set q4 hap c2 _⟩ (fun j9 _ => ?_)
    rw [List.map_set]
    exact vp_updV_set (by rw [List.length_map, a2]; exact c2) _ j9
  · rcases List.mem_or_eq_of_mem_set hp9 with h9 | h9
    · exact hcl p9 h9
    · exact hvN p9 h9.symm
theorem aw_putF {ix ci j q : Nat} {fs : List hb_V} {v : hb_V} {t : FieldType} (hd : decode cc pc = .ok (.putfield ix, 3)) (hf : hb_fld own ix ci j) (hs : hb_fls ci) (hw : hb_flw own ci j true t) (hnm : nm = "<init>") (hq : h q = .inl (ci, fs)) (hvt : ∀ σ, narrow t (hb_cv σ v) = hb_cv σ v ∧ fits t (hb_cv σ v) = true) (hvN : ∀ p, v = hb_r p → p < N) (k : hb_W l own cc nL ret nm tb E z0 R σ0 N0 o h' N' kc ks (pc + 3) ls st (hb_up h q (.inl (ci, fs.set j v))) N) : hb_W l own cc nL ret nm tb E z0 R σ0 N0 o h' N' kc ks pc ls (v :: hb_r q :: st) h N := by
  intro p e s m args below meth c X σ H locs lr hR hex hlo hL
  obtain ⟨C, T, n, c1, c2, c3, c4⟩ := hf
  obtain ⟨C', T', n', ty, d1, d2, d3, d4⟩ := hs
  cases Option.some.inj (c1.symm.trans d1)
  obtain ⟨w1, w2, w3⟩ := hw C T n c1
  have hne : (.inl (ci, fs) : hb_C) ≠ hb_junk := fun e9 => by
    have e8 : ci = 99 := congrArg Prod.fst (Sum.inl.inj e9)
    subst e8; cases c1
  have hqN := hR.lt hq hne
  obtain ⟨hz, hat, hcl⟩ := hR.2.1 q hqN
  rw [hq] at hat hcl
  obtain ⟨r, a1, a2, a3⟩ := hat
  cases Option.some.inj (c1.symm.trans a1)
  have hP : va_P E.1 vwCl [(σ q, .inr (ci, fs.map (hb_cv σ)))] H := fun k9 q9 h9 => by
    match k9, h9 with
    | 0, h9 => cases h9; exact ⟨_, c1, a3⟩
  have hap := va_apart (own := own) X.2.2.2.2.1 d2 ty d3 d4 X.2.2.2.2.2.1.1 c1
  obtain ⟨cell, q1, q2, q3, q4⟩ := a3
  obtain ⟨hS, hfc, kC, hkC, hkind⟩ := X.2.2.2.2.2.1.1.1 ci _ c1
  obtain ⟨cf, kf, fi, f, hi, hsl⟩ := hS j c2
  have hlay := X.2.2.2.2.1 _ (c3 _ (u_in_lay c2))
  unfold u_lay at hlay
  rw [if_pos w1] at hlay
  have hst := (u_facts hfc hkC (u_lays X.2.2.2.2.1 c3 c2) hi).1
  have hcf : m.cls = cf := by
    obtain ⟨_, _, c', _, _, _, -, -, hf', -, -, -, hown2, -⟩ := Cond.laysFinal_spec hlay
    have e1 : c' = cf := by have := hi.symm.trans hf'; simp at this; exact this.1.symm
    rw [w3 rfl] at hown2
    rw [← e1]; exact Option.some.inj (X.2.2.2.1.symm.trans hown2)
  have h6 := u_fits hfc hkC hkind (Or.inr hlay) hi w2 (hvt σ).1 (hvt σ).2
  refine W.putFinK X.1 X.2.1 X.2.2.2.1 (X.2.2.2.2.1 _ c4) hi hst hcf (X.2.2.2.2.2.2.2.2.2.1.trans hnm) (by rw [q2]; exact h6) q1 q3 (by rw [hsl]; exact k2_hasslot (q4 j c2)) rfl rfl hd fun H2 e1 e2 e3 => ?_
  rw [hsl] at e1 ⊢
  refine k p e s m args below meth c X σ H2 _ lr ?_ hex (fun x hx => by
    rcases List.mem_append.mp hx with h9 | h9
    · exact hlo x h9
    · rw [List.mem_singleton.mp h9]; exact hz) hL
  refine hR.upd hqN ⟨_, c1, by rw [List.length_set]; exact a2, ?_⟩ (fun p9 hp9 => ?_) e2 e3
  · refine t_OB.to (V := updV (vp_V (fs.map (hb_cv σ))) j (hb_cv σ v)) ⟨_, e1, q2, q3, t_set q4 hap c2 _⟩ (fun j9 _ => ?_)
    rw [List.map_set]
    exact vp_updV_set (by rw [List.length_map, a2]; exact c2) _ j9
  · rcases List.mem_or_eq_of_mem_set hp9 with h9 | h9
    · exact hcl p9 h9
    · exact hvN p9 h9.symm
theorem aw_iald {q n : Nat} {f : Int → Int} {i : Int}  (hd : decode cc pc = .ok (.iaload, 1)) (hq : h q = .inr (.inl (0, n, f))) (hi : 0 ≤ i ∧ i < n) (hn : n ≤ 2147483647)  (k : hb_W l own cc nL ret nm tb E z0 R σ0 N0 o h' N' kc ks (pc + 1) ls (hb_i (f i) :: st) h N) : hb_W l own cc nL ret nm tb E z0 R σ0 N0 o h' N' kc ks pc ls (hb_i i :: hb_r q :: st) h N := by
  intro p e s m args below meth c X σ H locs lr hR hex hlo hL
  have hat := (hR.2.1 q (hR.lt hq (fun e9 => by cases e9))).2.1
  rw [hq] at hat
  have hat : H[σ q]? = some (arrV (E.2 0) n (fun j => hb_el 0 (f (j : Int)))) := hat
  refine W.iald X.1 X.2.1 (v := hb_cv σ (hb_i (f i))) hat ((X.2.2.2.2.2.1.2 0 (by decide)).1 n _) (fun h9 => by cases h9) (by rw [arrV_size]; exact hb_vin hi.1 hi.2 (by omega)) ?_ rfl rfl hd (k p e s m args below meth c X σ H locs lr hR hex hlo hL)
  rw [hb_cla hi.1 (by omega), arrV_read _ _ (by omega)]
  rw [Int.toNat_of_nonneg hi.1]
  rfl
theorem aw_zald {q n : Nat} {f : Int → Int} {i : Int}  (hd : decode cc pc = .ok (.baload, 1)) (hq : h q = .inr (.inl (1, n, f))) (hi : 0 ≤ i ∧ i < n) (hn : n ≤ 2147483647)  (k : hb_W l own cc nL ret nm tb E z0 R σ0 N0 o h' N' kc ks (pc + 1) ls (hb_i (f i) :: st) h N) : hb_W l own cc nL ret nm tb E z0 R σ0 N0 o h' N' kc ks pc ls (hb_i i :: hb_r q :: st) h N := by
  intro p e s m args below meth c X σ H locs lr hR hex hlo hL
  have hat := (hR.2.1 q (hR.lt hq (fun e9 => by cases e9))).2.1
  rw [hq] at hat
  have hat : H[σ q]? = some (arrV (E.2 1) n (fun j => hb_el 1 (f (j : Int)))) := hat
  refine W.zald X.1 X.2.1 (v := hb_cv σ (hb_i (f i))) hat ((X.2.2.2.2.2.1.2 1 (by decide)).1 n _) (fun h9 => by cases h9) (by rw [arrV_size]; exact hb_vin hi.1 hi.2 (by omega)) ?_ rfl rfl hd (k p e s m args below meth c X σ H locs lr hR hex hlo hL)
  rw [hb_cla hi.1 (by omega), arrV_read _ _ (by omega)]
  rw [Int.toNat_of_nonneg hi.1]
  rfl
theorem aw_lald {q n : Nat} {f : Int → Int} {i : Int}  (hd : decode cc pc = .ok (.laload, 1)) (hq : h q = .inr (.inl (2, n, f))) (hi : 0 ≤ i ∧ i < n) (hn : n ≤ 2147483647)  (k : hb_W l own cc nL ret nm tb E z0 R σ0 N0 o h' N' kc ks (pc + 1) ls (hb_l (f i) :: st) h N) : hb_W l own cc nL ret nm tb E z0 R σ0 N0 o h' N' kc ks pc ls (hb_i i :: hb_r q :: st) h N := by
  intro p e s m args below meth c X σ H locs lr hR hex hlo hL
  have hat := (hR.2.1 q (hR.lt hq (fun e9 => by cases e9))).2.1
  rw [hq] at hat
  have hat : H[σ q]? = some (arrV (E.2 2) n (fun j => hb_el 2 (f (j : Int)))) := hat
  refine W.lald X.1 X.2.1 (v := hb_cv σ (hb_l (f i))) hat ((X.2.2.2.2.2.1.2 2 (by decide)).1 n _) (fun h9 => by cases h9) (by rw [arrV_size]; exact hb_vin hi.1 hi.2 (by omega)) ?_ rfl rfl hd (k p e s m args below meth c X σ H locs lr hR hex hlo hL)
  rw [hb_cla hi.1 (by omega), arrV_read _ _ (by omega)]
  rw [Int.toNat_of_nonneg hi.1]
  rfl
theorem aw_eald {q n : Nat} {f : Int → Option Nat} {i : Int} {r : Option Nat} (hd : decode cc pc = .ok (.aaload, 1)) (hq : h q = .inr (.inr (3, n, f))) (hi : 0 ≤ i ∧ i < n) (hn : n ≤ 2147483647) (hr : f i = r) (k : hb_W l own cc nL ret nm tb E z0 R σ0 N0 o h' N' kc ks (pc + 1) ls (.inr (.inl r) :: st) h N) : hb_W l own cc nL ret nm tb E z0 R σ0 N0 o h' N' kc ks pc ls (hb_i i :: hb_r q :: st) h N := by
  intro p e s m args below meth c X σ H locs lr hR hex hlo hL
  have hat := (hR.2.1 q (hR.lt hq (fun e9 => by cases e9))).2.1
  rw [hq] at hat
  have hat : H[σ q]? = some (arrV (E.2 3) n (fun j => hb_cv σ (.inr (.inl (f (j : Int)))))) := hat
  refine W.aald X.1 X.2.1 (v := hb_cv σ (.inr (.inl r))) hat ((X.2.2.2.2.2.1.2 3 (by decide)).1 n _) rfl (fun h9 => by cases h9) (by rw [arrV_size]; exact hb_vin hi.1 hi.2 (by omega)) ?_ rfl rfl hd (k p e s m args below meth c X σ H locs lr hR hex hlo hL)
  rw [hb_cla hi.1 (by omega), arrV_read _ _ (by omega)]
  rw [Int.toNat_of_nonneg hi.1]
  rw [hr]
theorem aw_gald {q n : Nat} {f : Int → Option Nat} {i : Int} {r : Option Nat} (hd : decode cc pc = .ok (.aaload, 1)) (hq : h q = .inr (.inr (4, n, f))) (hi : 0 ≤ i ∧ i < n) (hn : n ≤ 2147483647) (hr : f i = r) (k : hb_W l own cc nL ret nm tb E z0 R σ0 N0 o h' N' kc ks (pc + 1) ls (.inr (.inl r) :: st) h N) : hb_W l own cc nL ret nm tb E z0 R σ0 N0 o h' N' kc ks pc ls (hb_i i :: hb_r q :: st) h N := by
  intro p e s m args below meth c X σ H locs lr hR hex hlo hL
  have hat := (hR.2.1 q (hR.lt hq (fun e9 => by cases e9))).2.1
  rw [hq] at hat
  have hat : H[σ q]? = some (arrV (E.2 4) n (fun j => hb_cv σ (.inr (.inl (f (j : Int)))))) := hat
  refine W.aald X.1 X.2.1 (v := hb_cv σ (.inr (.inl r))) hat ((X.2.2.2.2.2.1.2 4 (by decide)).1 n _) rfl (fun h9 => by cases h9) (by rw [arrV_size]; exact hb_vin hi.1 hi.2 (by omega)) ?_ rfl rfl hd (k p e s m args below meth c X σ H locs lr hR hex hlo hL)
  rw [hb_cla hi.1 (by omega), arrV_read _ _ (by omega)]
  rw [Int.toNat_of_nonneg hi.1]
  rw [hr]
theorem aw_iast {q n : Nat} {f : Int → Int} {i v : Int} (hd : decode cc pc = .ok (.iastore, 1)) (hq : h q = .inr (.inl (0, n, f))) (hi : 0 ≤ i ∧ i < n) (hn : n ≤ 2147483647)  (k : hb_W l own cc nL ret nm tb E z0 R σ0 N0 o h' N' kc ks (pc + 1) ls st (hb_up h q (.inr (.inl (0, n, hb_uf f i v)))) N) : hb_W l own cc nL ret nm tb E z0 R σ0 N0 o h' N' kc ks pc ls (hb_i v :: hb_i i :: hb_r q :: st) h N := by
  intro p e s m args below meth c X σ H locs lr hR hex hlo hL
  have hqN := hR.lt hq (fun e9 => by cases e9)
  obtain ⟨hz, hat, -⟩ := hR.2.1 q hqN
  rw [hq] at hat
  have hat : H[σ q]? = some (arrV (E.2 0) n (fun j => hb_el 0 (f (j : Int)))) := hat
  refine W.iast X.1 X.2.1 hat ((X.2.2.2.2.2.1.2 0 (by decide)).1 n _) (fun h9 => by cases h9) (by rw [arrV_size]; exact hb_vin hi.1 hi.2 (by omega)) rfl rfl hd fun H2 e1 e2 e3 => ?_
  refine k p e s m args below meth c X σ H2 _ lr (hR.upd hqN ?_ trivial e2 e3) hex (fun x hx => by
    rcases List.mem_append.mp hx with h9 | h9
    · exact hlo x h9
    · rw [List.mem_singleton.mp h9]; exact hz) hL
  show H2[σ q]? = some (arrV (E.2 0) n (fun j => hb_el 0 (hb_uf f i v (j : Int))))
  rw [e1, hb_cla hi.1 (by omega), arrV_store]
  refine congrArg some (hb_arr_congr fun j hj => ?_)
  by_cases e9 : j = i.toNat
  · subst e9
    simp only [updV, if_pos, hb_uf, Int.toNat_of_nonneg hi.1, hb_el]
  · have e8 : ¬ (j : Int) = i := by omega
    simp only [updV, if_neg e9, hb_uf, if_neg e8]
theorem aw_zast {q n : Nat} {f : Int → Int} {i v : Int} (hd : decode cc pc = .ok (.bastore, 1)) (hq : h q = .inr (.inl (1, n, f))) (hi : 0 ≤ i ∧ i < n) (hn : n ≤ 2147483647) (hv : v = 0 ∨ v = 1) (k : hb_W l own cc nL ret nm tb E z0 R σ0 N0 o h' N' kc ks (pc + 1) ls st (hb_up h q (.inr (.inl (1, n, hb_uf f i v)))) N) : hb_W l own cc nL ret nm tb E z0 R σ0 N0 o h' N' kc ks pc ls (hb_i v :: hb_i i :: hb_r q :: st) h N := by
  intro p e s m args below meth c X σ H locs lr hR hex hlo hL
  have hqN := hR.lt hq (fun e9 => by cases e9)
  obtain ⟨hz, hat, -⟩ := hR.2.1 q hqN
  rw [hq] at hat
  have hat : H[σ q]? = some (arrV (E.2 1) n (fun j => hb_el 1 (f (j : Int)))) := hat
  refine W.zast X.1 X.2.1 hat ((X.2.2.2.2.2.1.2 1 (by decide)).1 n _) (fun h9 => by cases h9) (by rw [arrV_size]; exact hb_vin hi.1 hi.2 (by omega)) rfl rfl hd fun H2 e1 e2 e3 => ?_
  refine k p e s m args below meth c X σ H2 _ lr (hR.upd hqN ?_ trivial e2 e3) hex (fun x hx => by
    rcases List.mem_append.mp hx with h9 | h9
    · exact hlo x h9
    · rw [List.mem_singleton.mp h9]; exact hz) hL
  show H2[σ q]? = some (arrV (E.2 1) n (fun j => hb_el 1 (hb_uf f i v (j : Int))))
  rw [e1, hb_cla hi.1 (by omega), arrV_store, show narrow .boolean (.int (Int32.ofInt v)) = .int (Int32.ofInt v) by rcases hv with rfl | rfl <;> rfl]
  refine congrArg some (hb_arr_congr fun j hj => ?_)
  by_cases e9 : j = i.toNat
  · subst e9
    simp only [updV, if_pos, hb_uf, Int.toNat_of_nonneg hi.1, hb_el]
  · have e8 : ¬ (j : Int) = i := by omega
    simp only [updV, if_neg e9, hb_uf, if_neg e8]
theorem aw_last {q n : Nat} {f : Int → Int} {i v : Int} (hd : decode cc pc = .ok (.lastore, 1)) (hq : h q = .inr (.inl (2, n, f))) (hi : 0 ≤ i ∧ i < n) (hn : n ≤ 2147483647)  (k : hb_W l own cc nL ret nm tb E z0 R σ0 N0 o h' N' kc ks (pc + 1) ls st (hb_up h q (.inr (.inl (2, n, hb_uf f i v)))) N) : hb_W l own cc nL ret nm tb E z0 R σ0 N0 o h' N' kc ks pc ls (hb_l v :: hb_i i :: hb_r q :: st) h N := by
  intro p e s m args below meth c X σ H locs lr hR hex hlo hL
  have hqN := hR.lt hq (fun e9 => by cases e9)
  obtain ⟨hz, hat, -⟩ := hR.2.1 q hqN
  rw [hq] at hat
  have hat : H[σ q]? = some (arrV (E.2 2) n (fun j => hb_el 2 (f (j : Int)))) := hat
  refine W.last X.1 X.2.1 hat ((X.2.2.2.2.2.1.2 2 (by decide)).1 n _) (fun h9 => by cases h9) (by rw [arrV_size]; exact hb_vin hi.1 hi.2 (by omega)) rfl rfl hd fun H2 e1 e2 e3 => ?_
  refine k p e s m args below meth c X σ H2 _ lr (hR.upd hqN ?_ trivial e2 e3) hex (fun x hx => by
    rcases List.mem_append.mp hx with h9 | h9
    · exact hlo x h9
    · rw [List.mem_singleton.mp h9]; exact hz) hL
  show H2[σ q]? = some (arrV (E.2 2) n (fun j => hb_el 2 (hb_uf f i v (j : Int))))
  rw [e1, hb_cla hi.1 (by omega), arrV_store]
  refine congrArg some (hb_arr_congr fun j hj => ?_)
  by_cases e9 : j = i.toNat
  · subst e9
    simp only [updV, if_pos, hb_uf, Int.toNat_of_nonneg hi.1, hb_el]
  · have e8 : ¬ (j : Int) = i := by omega
    simp only [updV, if_neg e9, hb_uf, if_neg e8]
theorem aw_alen {q n kd : Nat} {f : Int → Int} (hd : decode cc pc = .ok (.arraylength, 1)) (hq : h q = .inr (.inl (kd, n, f))) (hk : kd < 3) (k : hb_W l own cc nL ret nm tb E z0 R σ0 N0 o h' N' kc ks (pc + 1) ls (hb_i n :: st) h N) : hb_W l own cc nL ret nm tb E z0 R σ0 N0 o h' N' kc ks pc ls (hb_r q :: st) h N := by
  intro p e s m args below meth c X σ H locs lr hR hex hlo hL
  have hat := (hR.2.1 q (hR.lt hq (fun e9 => by cases e9))).2.1
  rw [hq] at hat
  have hat : H[σ q]? = some (arrV (E.2 kd) n (fun j => hb_el kd (f (j : Int)))) := hat
  exact W.alen X.1 X.2.1 (n := Int32.ofInt n) hat ((X.2.2.2.2.2.1.2 kd (by omega)).1 n _) (by rw [arrV_size]; exact hb_natI n) rfl rfl hd (k p e s m args below meth c X σ H locs lr hR hex hlo hL)
theorem aw_east {q n w ci : Nat} {fs : List hb_V} {f : Int → Option Nat} {i : Int} (hd : decode cc pc = .ok (.aastore, 1)) (hq : h q = .inr (.inr (3, n, f))) (hw : h w = .inl (1, fs)) (hi : 0 ≤ i ∧ i < n) (hn : n ≤ 2147483647) (k : hb_W l own cc nL ret nm tb E z0 R σ0 N0 o h' N' kc ks (pc + 1) ls st (hb_up h q (.inr (.inr (3, n, hb_uf f i (some w))))) N) : hb_W l own cc nL ret nm tb E z0 R σ0 N0 o h' N' kc ks pc ls (hb_r w :: hb_i i :: hb_r q :: st) h N := by
  intro p e s m args below meth c X σ H locs lr hR hex hlo hL
  have hqN := hR.lt hq (fun e9 => by cases e9)
  have hwN := hR.lt hw (fun e9 => by cases e9)
  obtain ⟨hz, hat, hcl⟩ := hR.2.1 q hqN
  have haw := (hR.2.1 w hwN).2.1
  rw [hq] at hat hcl
  rw [hw] at haw
  have hat : H[σ q]? = some (arrV (E.2 3) n (fun j => hb_cv σ (.inr (.inl (f (j : Int)))))) := hat
  obtain ⟨r, a1, a2, cellV, g1, g2, g3, -⟩ := haw
  cases Option.some.inj (a1.symm.trans (show vwCl[1]? = some (RX1, TX1, 9) from rfl))
  have hcls := (X.2.2.2.2.2.1.1.1 1 _ (show vwCl[1]? = some (RX1, TX1, 9) from rfl)).2
  obtain ⟨kA, comp, k1, k2, k3, -⟩ := (X.2.2.2.2.2.1.2 3 (by decide)).2.1
  have hcomp : comp = E.1.1 1 := Option.some.inj (k3.symm.trans hcls.1)
  subst hcomp
  obtain ⟨kC, hkC, -⟩ := hcls.2
  refine W.aast X.1 X.2.1 hat (fun q9 h9 => by cases h9) (fun h9 => by cases h9) k1 k2 rfl hkC ⟨fun h9 => hb_vin (n := n) hi.1 hi.2 (by omega) (Or.inl h9), by rw [arrV_size]; exact Nat.lt_of_not_le fun h9 => hb_vin (n := n) hi.1 hi.2 (by omega) (Or.inr h9)⟩ g1 (fun q9 h9 => by rw [g3] at h9; cases h9) (by rw [g2]; exact hkC) (by rw [g2]; exact va_assign hcls) rfl rfl hd fun H2 e1 e2 e3 => ?_
  refine k p e s m args below meth c X σ H2 _ lr (hR.upd hqN ?_ ?_ e2 e3) hex (fun x hx => by
    rcases List.mem_append.mp hx with h9 | h9
    · exact hlo x h9
    · rw [List.mem_singleton.mp h9]; exact hz) hL
  · show H2[σ q]? = some (arrV (E.2 3) n (fun j => hb_cv σ (.inr (.inl (hb_uf f i (some w) (j : Int))))))
    rw [e1, hb_cla hi.1 (by omega), arrV_store]
    refine congrArg some (hb_arr_congr fun j hj => ?_)
    by_cases e9 : j = i.toNat
    · subst e9
      simp only [updV, if_pos, hb_uf, Int.toNat_of_nonneg hi.1, hb_cv]
    · have e8 : ¬ (j : Int) = i := by omega
      simp only [updV, if_neg e9, hb_uf, if_neg e8]
  · intro j p9 hj hp9
    unfold hb_uf at hp9
    by_cases e8 : (j : Int) = i
    · rw [if_pos e8] at hp9; cases hp9; exact hwN
    · rw [if_neg e8] at hp9; exact hcl j p9 hj hp9
theorem aw_null (hd : decode cc pc = .ok (.aconst_null, 1)) (k : hb_W l own cc nL ret nm tb E z0 R σ0 N0 o h' N' kc ks (pc + 1) ls (hb_n :: st) h N) : hb_W l own cc nL ret nm tb E z0 R σ0 N0 o h' N' kc ks pc ls st h N := by
  intro p e s m args below meth c X σ H locs lr hR hex hlo hL
  exact lv_null X.1 X.2.1 hd (k p e s m args below meth c X σ H locs lr hR hex hlo hL)
theorem aw_ifnullR {q tg : Nat} {off : Int} (hd : decode cc pc = .ok (.ifnull off, 3)) (k : hb_W l own cc nL ret nm tb E z0 R σ0 N0 o h' N' kc ks (pc + 3) ls st h N) : hb_W l own cc nL ret nm tb E z0 R σ0 N0 o h' N' kc ks pc ls (hb_r q :: st) h N := by
  intro p e s m args below meth c X σ H locs lr hR hex hlo hL
  exact lv_ifnull X.1 X.2.1 hd (k p e s m args below meth c X σ H locs lr hR hex hlo hL)
theorem aw_ifnullN {tg : Nat} {off : Int} (hd : decode cc pc = .ok (.ifnull off, 3)) (ht : (pc : Int) + off = (tg : Int)) (k : hb_W l own cc nL ret nm tb E z0 R σ0 N0 o h' N' kc ks tg ls st h N) : hb_W l own cc nL ret nm tb E z0 R σ0 N0 o h' N' kc ks pc ls (hb_n :: st) h N := by
  intro p e s m args below meth c X σ H locs lr hR hex hlo hL
  exact lv_ifnullN X.1 X.2.1 hd ht (k p e s m args below meth c X σ H locs lr hR hex hlo hL)
theorem aw_acmp_eq {a b tg : Nat} {off : Int} (hd : decode cc pc = .ok (.if_acmp .eq off, 3)) (ht : (pc : Int) + off = (tg : Int)) (ha : a < N) (hb : b < N) (kt : a = b → hb_W l own cc nL ret nm tb E z0 R σ0 N0 o h' N' kc ks tg ls st h N) (kf : a ≠ b → hb_W l own cc nL ret nm tb E z0 R σ0 N0 o h' N' kc ks (pc + 3) ls st h N) : hb_W l own cc nL ret nm tb E z0 R σ0 N0 o h' N' kc ks pc ls (hb_r b :: hb_r a :: st) h N := by
  intro p e s m args below meth c X σ H locs lr hR hex hlo hL
  refine lv_acmp_eq (rx := some (σ a)) (ry := some (σ b)) X.1 X.2.1 hd ht (fun q => ?_) (fun q => ?_)
  · exact kt (hR.2.2.1 a b ha hb (Option.some.inj q)) p e s m args below meth c X σ H locs lr hR hex hlo hL
  · exact kf (fun z => q (by rw [z])) p e s m args below meth c X σ H locs lr hR hex hlo hL
theorem aw_iret {z : Int} (hd : decode cc pc = .ok (.ireturn, 1)) (hr : ret = some .int) (ho : o = .inl (some (hb_i z))) (hh : h = h') (hN : N = N') (hc : kc ≤ R.cells) (hs : ks ≤ R.slots) : hb_W l own cc nL ret nm tb E z0 R σ0 N0 o h' N' kc ks pc ls [hb_i z] h N := by
  intro p e s m args below meth c X σ H locs lr hR hex hlo hL
  subst hN
  subst hh
  refine W.widen hc hs (vx_ret ?_)
  refine W.iret X.1 X.2.1 (X.2.2.2.2.2.2.2.2.1.trans hr) (fun t ht hW => ⟨_, σ, ho, rfl, hex, by rw [ht]; exact hR⟩) hlo hd X.2.2.2.2.2.2.2.1
theorem aw_zret {z : Int} (hd : decode cc pc = .ok (.ireturn, 1)) (hr : ret = some .boolean) (hz : z = 0 ∨ z = 1) (ho : o = .inl (some (hb_i z))) (hh : h = h') (hN : N = N') (hc : kc ≤ R.cells) (hs : ks ≤ R.slots) : hb_W l own cc nL ret nm tb E z0 R σ0 N0 o h' N' kc ks pc ls [hb_i z] h N := by
  intro p e s m args below meth c X σ H locs lr hR hex hlo hL
  subst hN
  subst hh
  refine W.widen hc hs (vx_ret ?_)
  refine W.zret X.1 X.2.1 (X.2.2.2.2.2.2.2.2.1.trans hr) (by rcases hz with rfl | rfl <;> rfl) (fun t ht hW => ⟨_, σ, ho, rfl, hex, by rw [ht]; exact hR⟩) hlo hd X.2.2.2.2.2.2.2.1
theorem aw_vret (hd : decode cc pc = .ok (.return_, 1)) (hr : ret = none) (ho : o = .inl none) (hh : h = h') (hN : N = N') (hc : kc ≤ R.cells) (hs : ks ≤ R.slots) : hb_W l own cc nL ret nm tb E z0 R σ0 N0 o h' N' kc ks pc ls [] h N := by
  intro p e s m args below meth c X σ H locs lr hR hex hlo hL
  subst hN
  subst hh
  refine W.widen hc hs (vx_ret ?_)
  refine W.vret X.1 X.2.1 (X.2.2.2.2.2.2.2.2.1.trans hr) (fun t ht hW => ⟨_, σ, ho, rfl, hex, by rw [ht]; exact hR⟩) hlo hd X.2.2.2.2.2.2.2.1
theorem hb_M_of {y : MethodName} {cy : ByteArray} {ny : Nat} {ry : Option FieldType} {d mc ms : Nat} {av : List hb_V} {h2 : hb_H} {N2 : Nat} (hy : plainName y.cls = true) (hnl : ∀ v ∈ av, hb_nl v = true) (hlen : av.length ≤ ny)
    (body : ∀ (E : hb_E) (z0 : Heap) (σ0 : Nat → Nat), hb_W l y.cls cy ny ry y.name [] E z0 (hb_rm d mc ms) σ0 N o h2 N2 0 0 0 av [] h N) : hb_M l y cy ny ry d mc ms av h N o h2 N2 := by
  intro E z0 σ
  refine vx_ofW (cc := cy) (maxL := ny) (ret := ry) hy rfl ?_
  intro p e s m args below meth c s₁ B hml htab hv
  obtain ⟨rfl, hR, hK, hB⟩ := hv
  have hts := atoms_spec (ws := Cond.code y cy ny ry :: hb_ws) B.pre
  have hsl : lg_sl (av.map (hb_cv σ)) = av.map (fun v => Slot.val (hb_cv σ v)) := by
    unfold lg_sl
    clear hR hlen body B hts
    induction av with
    | nil => rfl
    | cons v tl ih =>
      rw [List.map_cons, List.flatMap_cons, ih (fun w hw => hnl w (List.mem_cons_of_mem _ hw)), if_neg (by rw [hb_cat (hnl v List.mem_cons_self)]; decide)]
      rfl
  have hl := lv_entry (av.map (hb_cv σ)) (n := ny) (by rw [hsl, List.length_map]; exact hlen)
  rw [lg_entry_eq]
  have hl2 : ∀ (k : Nat) (v : hb_V), av[k]? = some v → ((lg_sl (av.map (hb_cv σ)) ++ List.replicate (ny - (lg_sl (av.map (hb_cv σ))).length) Slot.unset).toArray)[k]? = some (.val (hb_cv σ v)) := by
    intro k v hk
    have hk2 := (List.getElem?_eq_some_iff.mp hk).1
    rw [List.getElem?_toArray, hsl, List.getElem?_append_left (by rw [List.length_map]; exact hk2), List.getElem?_map, hk]
    rfl
  generalize (lg_sl (av.map (hb_cv σ)) ++ List.replicate (ny - (lg_sl (av.map (hb_cv σ))).length) Slot.unset).toArray = lr at hl hl2 ⊢
  exact body E z0 σ p e s m _ below meth c ⟨B.exec, B.bytes, hml, findClass_of_methodNamed B.named, fun w hw => hts w (List.mem_cons_of_mem _ hw), hK, hB, B.notSynchronized, B.returns, (name_of_methodNamed B.named B.method).1, List.eq_nil_iff_forall_not_mem.mpr (fun x hx => htab x hx), hR.1⟩ σ s.heap [] lr hR hb_ex.rf (fun _ h9 => nomatch h9) ⟨hl.1, hl.2.1, hnl, hl2⟩
end HBH

/-! numbers -/
theorem hb_ti {z : Int} (h : hb_in z) : (Int32.ofInt z).toInt = z := Int32.toInt_ofInt_of_le (by omega) (by omega)
theorem hb_lt {a b : Int} (ha : hb_in a) (hb : hb_in b) : Int32.ofInt a < Int32.ofInt b ↔ a < b := by rw [Int32.lt_iff_toInt_lt, hb_ti ha, hb_ti hb]
theorem hb_le {a b : Int} (ha : hb_in a) (hb : hb_in b) : Int32.ofInt a ≤ Int32.ofInt b ↔ a ≤ b := by rw [Int32.le_iff_toInt_le, hb_ti ha, hb_ti hb]
theorem hb_eq {a b : Int} (ha : hb_in a) (hb : hb_in b) : Int32.ofInt a = Int32.ofInt b ↔ a = b := ⟨fun h => by have h1 := congrArg Int32.toInt h; rwa [hb_ti ha, hb_ti hb] at h1, fun h => by rw [h]⟩
theorem hb_zero : (0 : Int32) = Int32.ofInt 0 := rfl
theorem hb_cla {i : Int} (h0 : 0 ≤ i) (h1 : i ≤ 2147483647) : (Int32.ofInt i).toNatClampNeg = i.toNat := by
  show (Int32.ofInt i).toInt.toNat = i.toNat
  rw [hb_ti ⟨by omega, h1⟩]
theorem hb_vin {i : Int} {n : Nat} (h0 : 0 ≤ i) (h1 : i < n) (h2 : i ≤ 2147483647) : ¬ (Int32.ofInt i < 0 ∨ n ≤ (Int32.ofInt i).toNatClampNeg) := by
  rw [hb_cla h0 h2, hb_zero, hb_lt ⟨by omega, h2⟩ ⟨by omega, by omega⟩]
  omega
theorem hb_oi (x : Int32) : Int32.ofInt x.toInt = x := Int32.ofInt_toInt x
theorem hb_inI (x : Int32) : hb_in x.toInt := ⟨by have := Int32.le_toInt x; omega, by have := Int32.toInt_lt x; omega⟩
theorem hb_div {a b : Int} (ha : hb_in a) (hb : hb_in b) (h0 : 0 ≤ a) (h1 : 0 < b) : Int32.ofInt a / Int32.ofInt b = Int32.ofInt (a / b) := by
  apply Int32.toInt_inj.mp
  have h2 : 0 ≤ a / b := Int.ediv_nonneg h0 (Int.le_of_lt h1)
  have h3 : a / b ≤ a := Int.ediv_le_self b h0
  rw [Int32.toInt_div, hb_ti ha, hb_ti hb, hb_ti ⟨by omega, by omega⟩, Int.tdiv_eq_ediv_of_nonneg h0, Int.bmod_eq_of_le (by simp; omega) (by simp; omega)]
theorem hb_bmin {z : Int} (h : (Int8.ofInt z).toInt32 = Int32.ofInt z) : (Int8.ofInt z).toInt32 = Int32.ofInt z := h
theorem hb_set {l1 : List hb_V} {v : hb_V} {l2 : List hb_V} (i : Nat) (e1 : l2 = l1.set i v) (_h : i = i) : ∀ (k : Nat) (w : hb_V), l2[k]? = some w → (k = i ∧ w = v) ∨ (k ≠ i ∧ l1[k]? = some w) := by
  intro k w hk
  subst e1
  by_cases e : k = i
  · subst e
    have hl := (List.getElem?_eq_some_iff.mp hk).1
    rw [List.length_set] at hl
    rw [List.getElem?_set_self hl] at hk
    exact Or.inl ⟨rfl, (Option.some.inj hk).symm⟩
  · rw [List.getElem?_set_ne (Ne.symm e)] at hk
    exact Or.inr ⟨e, hk⟩
theorem hb_push {l1 : List hb_V} {v : hb_V} {l2 : List hb_V} {i : Nat} (e1 : l1.length = i ∧ l2 = l1 ++ [v]) : ∀ (k : Nat) (w : hb_V), l2[k]? = some w → (k = i ∧ w = v) ∨ (k ≠ i ∧ l1[k]? = some w) := by
  intro k w hk
  obtain ⟨rfl, rfl⟩ := e1
  by_cases e : k < l1.length
  · rw [List.getElem?_append_left e] at hk
    exact Or.inr ⟨Nat.ne_of_lt e, hk⟩
  · rw [List.getElem?_append_right (Nat.le_of_not_lt e)] at hk
    have h2 := (List.getElem?_eq_some_iff.mp hk).1
    have h3 : k - l1.length = 0 := by simp at h2; omega
    rw [h3] at hk
    exact Or.inl ⟨by omega, (Option.some.inj hk).symm⟩
section HBL
variable {l : Launch} {own : String} {cc : ByteArray} {nL : Nat} {ret : Option FieldType} {nm : String} {tb : List ExceptionTableEntry} {E : hb_E} {z0 : Heap} {R : Room} {σ0 : Nat → Nat} {N0 : Nat} {o : hb_O} {h' : hb_H} {N' : Nat} {kc ks pc : Nat} {ls st : List hb_V} {h : hb_H} {N : Nat}
theorem aw_iconst {z : Int} (hd : decode cc pc = .ok (.iconst z, 1)) (k : hb_W l own cc nL ret nm tb E z0 R σ0 N0 o h' N' kc ks (pc + 1) ls (hb_i z :: st) h N) : hb_W l own cc nL ret nm tb E z0 R σ0 N0 o h' N' kc ks pc ls st h N := by
  intro p e s m args below meth c X σ H locs lr hR hex hlo hL
  exact lv_iconst X.1 X.2.1 hd rfl (k p e s m args below meth c X σ H locs lr hR hex hlo hL)
theorem aw_bipush {z : Int} (hd : decode cc pc = .ok (.bipush z, 2)) (hv : (Int8.ofInt z).toInt32 = Int32.ofInt z) (k : hb_W l own cc nL ret nm tb E z0 R σ0 N0 o h' N' kc ks (pc + 2) ls (hb_i z :: st) h N) : hb_W l own cc nL ret nm tb E z0 R σ0 N0 o h' N' kc ks pc ls st h N := by
  intro p e s m args below meth c X σ H locs lr hR hex hlo hL
  exact lv_bipush X.1 X.2.1 hd hv (k p e s m args below meth c X σ H locs lr hR hex hlo hL)
theorem aw_sipush {z : Int} (hd : decode cc pc = .ok (.sipush z, 3)) (hv : (Int16.ofInt z).toInt32 = Int32.ofInt z) (k : hb_W l own cc nL ret nm tb E z0 R σ0 N0 o h' N' kc ks (pc + 3) ls (hb_i z :: st) h N) : hb_W l own cc nL ret nm tb E z0 R σ0 N0 o h' N' kc ks pc ls st h N := by
  intro p e s m args below meth c X σ H locs lr hR hex hlo hL
  exact lv_sipush X.1 X.2.1 hd hv (k p e s m args below meth c X σ H locs lr hR hex hlo hL)
theorem aw_ldc {z : Int} {ix : Nat} (hd : decode cc pc = .ok (.ldc ix, 2)) (hw : Cond.constant own ix (Int32.ofInt z) ∈ hb_ws) (k : hb_W l own cc nL ret nm tb E z0 R σ0 N0 o h' N' kc ks (pc + 2) ls (hb_i z :: st) h N) : hb_W l own cc nL ret nm tb E z0 R σ0 N0 o h' N' kc ks pc ls st h N := by
  intro p e s m args below meth c X σ H locs lr hR hex hlo hL
  exact W.ldc X.1 X.2.1 X.2.2.2.1 (X.2.2.2.2.1 _ hw) rfl hd (k p e s m args below meth c X σ H locs lr hR hex hlo hL)
theorem aw_iadd {x y : Int} (hd : decode cc pc = .ok (.iadd, 1)) (k : hb_W l own cc nL ret nm tb E z0 R σ0 N0 o h' N' kc ks (pc + 1) ls (hb_i (x + y) :: st) h N) : hb_W l own cc nL ret nm tb E z0 R σ0 N0 o h' N' kc ks pc ls (hb_i y :: hb_i x :: st) h N := by
  intro p e s m args below meth c X σ H locs lr hR hex hlo hL
  have k9 := k p e s m args below meth c X σ H locs lr hR hex hlo hL
  simp only [List.map_cons, hb_cv, Int32.ofInt_add] at k9
  exact lv_iadd X.1 X.2.1 hd k9
theorem aw_isub {x y : Int} (hd : decode cc pc = .ok (.isub, 1)) (k : hb_W l own cc nL ret nm tb E z0 R σ0 N0 o h' N' kc ks (pc + 1) ls (hb_i (x - y) :: st) h N) : hb_W l own cc nL ret nm tb E z0 R σ0 N0 o h' N' kc ks pc ls (hb_i y :: hb_i x :: st) h N := by
  intro p e s m args below meth c X σ H locs lr hR hex hlo hL
  have k9 := k p e s m args below meth c X σ H locs lr hR hex hlo hL
  simp only [List.map_cons, hb_cv, Int32.ofInt_sub] at k9
  exact lv_isub X.1 X.2.1 hd k9
theorem aw_imul {x y : Int} (hd : decode cc pc = .ok (.imul, 1)) (k : hb_W l own cc nL ret nm tb E z0 R σ0 N0 o h' N' kc ks (pc + 1) ls (hb_i (x * y) :: st) h N) : hb_W l own cc nL ret nm tb E z0 R σ0 N0 o h' N' kc ks pc ls (hb_i y :: hb_i x :: st) h N := by
  intro p e s m args below meth c X σ H locs lr hR hex hlo hL
  have k9 := k p e s m args below meth c X σ H locs lr hR hex hlo hL
  simp only [List.map_cons, hb_cv, Int32.ofInt_mul] at k9
  exact lv_imul X.1 X.2.1 hd k9
theorem aw_idiv {x y : Int} (hd : decode cc pc = .ok (.idiv, 1)) (hx : hb_in x) (hy : hb_in y) (h0 : 0 ≤ x) (h1 : 0 < y) (k : hb_W l own cc nL ret nm tb E z0 R σ0 N0 o h' N' kc ks (pc + 1) ls (hb_i (x / y) :: st) h N) : hb_W l own cc nL ret nm tb E z0 R σ0 N0 o h' N' kc ks pc ls (hb_i y :: hb_i x :: st) h N := by
  intro p e s m args below meth c X σ H locs lr hR hex hlo hL
  have k9 := k p e s m args below meth c X σ H locs lr hR hex hlo hL
  simp only [List.map_cons, hb_cv, ← hb_div hx hy h0 h1] at k9
  exact lv_idiv X.1 X.2.1 hd (fun q => by rw [hb_zero, hb_eq hy ⟨by omega, by omega⟩] at q; omega) k9
theorem aw_irem {x y : Int} (hd : decode cc pc = .ok (.irem, 1)) (hx : hb_in x) (hy : hb_in y) (h0 : 0 ≤ x) (h1 : 0 < y) (k : hb_W l own cc nL ret nm tb E z0 R σ0 N0 o h' N' kc ks (pc + 1) ls (hb_i (x % y) :: st) h N) : hb_W l own cc nL ret nm tb E z0 R σ0 N0 o h' N' kc ks pc ls (hb_i y :: hb_i x :: st) h N := by
  intro p e s m args below meth c X σ H locs lr hR hex hlo hL
  have k9 := k p e s m args below meth c X σ H locs lr hR hex hlo hL
  have e9 : Int32.ofInt (x % y) = Int32.ofInt x - Int32.ofInt x / Int32.ofInt y * Int32.ofInt y := by
    rw [hb_div hx hy h0 h1, ← Int32.ofInt_mul, ← Int32.ofInt_sub, Int.emod_def, Int.mul_comm]
  simp only [List.map_cons, hb_cv, e9] at k9
  exact lv_irem X.1 X.2.1 hd (fun q => by rw [hb_zero, hb_eq hy ⟨by omega, by omega⟩] at q; omega) k9
theorem aw_iand {x y : Int} (hd : decode cc pc = .ok (.iand, 1)) (k : hb_W l own cc nL ret nm tb E z0 R σ0 N0 o h' N' kc ks (pc + 1) ls (hb_i (Int32.ofInt x &&& Int32.ofInt y).toInt :: st) h N) : hb_W l own cc nL ret nm tb E z0 R σ0 N0 o h' N' kc ks pc ls (hb_i y :: hb_i x :: st) h N := by
  intro p e s m args below meth c X σ H locs lr hR hex hlo hL
  have k9 := k p e s m args below meth c X σ H locs lr hR hex hlo hL
  simp only [List.map_cons, hb_cv, hb_oi] at k9
  exact lv_iand X.1 X.2.1 hd k9
theorem aw_ior {x y : Int} (hd : decode cc pc = .ok (.ior, 1)) (k : hb_W l own cc nL ret nm tb E z0 R σ0 N0 o h' N' kc ks (pc + 1) ls (hb_i (Int32.ofInt x ||| Int32.ofInt y).toInt :: st) h N) : hb_W l own cc nL ret nm tb E z0 R σ0 N0 o h' N' kc ks pc ls (hb_i y :: hb_i x :: st) h N := by
  intro p e s m args below meth c X σ H locs lr hR hex hlo hL
  have k9 := k p e s m args below meth c X σ H locs lr hR hex hlo hL
  simp only [List.map_cons, hb_cv, hb_oi] at k9
  exact lv_ior X.1 X.2.1 hd k9
theorem aw_ixor {x y : Int} (hd : decode cc pc = .ok (.ixor, 1)) (k : hb_W l own cc nL ret nm tb E z0 R σ0 N0 o h' N' kc ks (pc + 1) ls (hb_i (Int32.ofInt x ^^^ Int32.ofInt y).toInt :: st) h N) : hb_W l own cc nL ret nm tb E z0 R σ0 N0 o h' N' kc ks pc ls (hb_i y :: hb_i x :: st) h N := by
  intro p e s m args below meth c X σ H locs lr hR hex hlo hL
  have k9 := k p e s m args below meth c X σ H locs lr hR hex hlo hL
  simp only [List.map_cons, hb_cv, hb_oi] at k9
  exact lv_ixor X.1 X.2.1 hd k9
theorem aw_ishl {x y : Int} (hd : decode cc pc = .ok (.ishl, 1)) (k : hb_W l own cc nL ret nm tb E z0 R σ0 N0 o h' N' kc ks (pc + 1) ls (hb_i (Int32.ofInt x <<< (Int32.ofInt y &&& 31)).toInt :: st) h N) : hb_W l own cc nL ret nm tb E z0 R σ0 N0 o h' N' kc ks pc ls (hb_i y :: hb_i x :: st) h N := by
  intro p e s m args below meth c X σ H locs lr hR hex hlo hL
  have k9 := k p e s m args below meth c X σ H locs lr hR hex hlo hL
  simp only [List.map_cons, hb_cv, hb_oi] at k9
  exact lv_ishl X.1 X.2.1 hd k9
theorem aw_dup {v : hb_V} (hd : decode cc pc = .ok (.dup, 1)) (hv : hb_nl v = true) (k : hb_W l own cc nL ret nm tb E z0 R σ0 N0 o h' N' kc ks (pc + 1) ls (v :: v :: st) h N) : hb_W l own cc nL ret nm tb E z0 R σ0 N0 o h' N' kc ks pc ls (v :: st) h N := by
  intro p e s m args below meth c X σ H locs lr hR hex hlo hL
  exact lv_dup X.1 X.2.1 hd (hb_cat hv) (k p e s m args below meth c X σ H locs lr hR hex hlo hL)
theorem aw_dup2 {v w : hb_V} (hd : decode cc pc = .ok (.dup2, 1)) (hv : hb_nl v = true) (hw : hb_nl w = true) (k : hb_W l own cc nL ret nm tb E z0 R σ0 N0 o h' N' kc ks (pc + 1) ls (v :: w :: v :: w :: st) h N) : hb_W l own cc nL ret nm tb E z0 R σ0 N0 o h' N' kc ks pc ls (v :: w :: st) h N := by
  intro p e s m args below meth c X σ H locs lr hR hex hlo hL
  exact lv_dup2_11 X.1 X.2.1 hd (hb_cat hv) (hb_cat hw) (k p e s m args below meth c X σ H locs lr hR hex hlo hL)
theorem aw_pop {v : hb_V} (hd : decode cc pc = .ok (.pop, 1)) (hv : hb_nl v = true) (k : hb_W l own cc nL ret nm tb E z0 R σ0 N0 o h' N' kc ks (pc + 1) ls st h N) : hb_W l own cc nL ret nm tb E z0 R σ0 N0 o h' N' kc ks pc ls (v :: st) h N := by
  intro p e s m args below meth c X σ H locs lr hR hex hlo hL
  exact lv_pop X.1 X.2.1 hd (hb_cat hv) (k p e s m args below meth c X σ H locs lr hR hex hlo hL)
theorem aw_goto {off : Int} {tg : Nat} (hd : decode cc pc = .ok (.goto off, 3)) (ht : (pc : Int) + off = (tg : Int)) (k : hb_W l own cc nL ret nm tb E z0 R σ0 N0 o h' N' kc ks tg ls st h N) : hb_W l own cc nL ret nm tb E z0 R σ0 N0 o h' N' kc ks pc ls st h N := by
  intro p e s m args below meth c X σ H locs lr hR hex hlo hL
  exact lv_goto X.1 X.2.1 hd ht (k p e s m args below meth c X σ H locs lr hR hex hlo hL)
theorem aw_icmp_eq {x y : Int} {off : Int} {tg : Nat} (hd : decode cc pc = .ok (.if_icmp .eq off, 3)) (ht : (pc : Int) + off = (tg : Int)) (hx : hb_in x) (hy : hb_in y) (kt : x = y → hb_W l own cc nL ret nm tb E z0 R σ0 N0 o h' N' kc ks tg ls st h N) (kf : x ≠ y → hb_W l own cc nL ret nm tb E z0 R σ0 N0 o h' N' kc ks (pc + 3) ls st h N) : hb_W l own cc nL ret nm tb E z0 R σ0 N0 o h' N' kc ks pc ls (hb_i y :: hb_i x :: st) h N := by
  intro p e s m args below meth c X σ H locs lr hR hex hlo hL
  have hi := hb_eq hx hy
  exact lv_icmp_eq X.1 X.2.1 hd ht (fun q => (kt (by rw [hi] at q; omega) p e s m args below meth c X σ H locs lr hR hex hlo hL)) (fun q => (kf (by rw [hi] at q; omega) p e s m args below meth c X σ H locs lr hR hex hlo hL))
theorem aw_icmp_ne {x y : Int} {off : Int} {tg : Nat} (hd : decode cc pc = .ok (.if_icmp .ne off, 3)) (ht : (pc : Int) + off = (tg : Int)) (hx : hb_in x) (hy : hb_in y) (kt : x ≠ y → hb_W l own cc nL ret nm tb E z0 R σ0 N0 o h' N' kc ks tg ls st h N) (kf : x = y → hb_W l own cc nL ret nm tb E z0 R σ0 N0 o h' N' kc ks (pc + 3) ls st h N) : hb_W l own cc nL ret nm tb E z0 R σ0 N0 o h' N' kc ks pc ls (hb_i y :: hb_i x :: st) h N := by
  intro p e s m args below meth c X σ H locs lr hR hex hlo hL
  have hi := hb_eq hx hy
  exact lv_icmp_ne X.1 X.2.1 hd ht (fun q => (kt (by rw [hi] at q; omega) p e s m args below meth c X σ H locs lr hR hex hlo hL)) (fun q => (kf (by rw [hi] at q; omega) p e s m args below meth c X σ H locs lr hR hex hlo hL))
theorem aw_icmp_lt {x y : Int} {off : Int} {tg : Nat} (hd : decode cc pc = .ok (.if_icmp .lt off, 3)) (ht : (pc : Int) + off = (tg : Int)) (hx : hb_in x) (hy : hb_in y) (kt : x < y → hb_W l own cc nL ret nm tb E z0 R σ0 N0 o h' N' kc ks tg ls st h N) (kf : y ≤ x → hb_W l own cc nL ret nm tb E z0 R σ0 N0 o h' N' kc ks (pc + 3) ls st h N) : hb_W l own cc nL ret nm tb E z0 R σ0 N0 o h' N' kc ks pc ls (hb_i y :: hb_i x :: st) h N := by
  intro p e s m args below meth c X σ H locs lr hR hex hlo hL
  have hi := hb_lt hx hy
  exact lv_icmp_lt X.1 X.2.1 hd ht (fun q => (kt (by rw [hi] at q; omega) p e s m args below meth c X σ H locs lr hR hex hlo hL)) (fun q => (kf (by rw [hi] at q; omega) p e s m args below meth c X σ H locs lr hR hex hlo hL))
theorem aw_icmp_ge {x y : Int} {off : Int} {tg : Nat} (hd : decode cc pc = .ok (.if_icmp .ge off, 3)) (ht : (pc : Int) + off = (tg : Int)) (hx : hb_in x) (hy : hb_in y) (kt : y ≤ x → hb_W l own cc nL ret nm tb E z0 R σ0 N0 o h' N' kc ks tg ls st h N) (kf : x < y → hb_W l own cc nL ret nm tb E z0 R σ0 N0 o h' N' kc ks (pc + 3) ls st h N) : hb_W l own cc nL ret nm tb E z0 R σ0 N0 o h' N' kc ks pc ls (hb_i y :: hb_i x :: st) h N := by
  intro p e s m args below meth c X σ H locs lr hR hex hlo hL
  have hi := hb_le hy hx
  exact lv_icmp_ge X.1 X.2.1 hd ht (fun q => (kt (by rw [hi] at q; omega) p e s m args below meth c X σ H locs lr hR hex hlo hL)) (fun q => (kf (by rw [hi] at q; omega) p e s m args below meth c X σ H locs lr hR hex hlo hL))
theorem aw_icmp_gt {x y : Int} {off : Int} {tg : Nat} (hd : decode cc pc = .ok (.if_icmp .gt off, 3)) (ht : (pc : Int) + off = (tg : Int)) (hx : hb_in x) (hy : hb_in y) (kt : y < x → hb_W l own cc nL ret nm tb E z0 R σ0 N0 o h' N' kc ks tg ls st h N) (kf : x ≤ y → hb_W l own cc nL ret nm tb E z0 R σ0 N0 o h' N' kc ks (pc + 3) ls st h N) : hb_W l own cc nL ret nm tb E z0 R σ0 N0 o h' N' kc ks pc ls (hb_i y :: hb_i x :: st) h N := by
  intro p e s m args below meth c X σ H locs lr hR hex hlo hL
  have hi := hb_lt hy hx
  exact lv_icmp_gt X.1 X.2.1 hd ht (fun q => (kt (by rw [hi] at q; omega) p e s m args below meth c X σ H locs lr hR hex hlo hL)) (fun q => (kf (by rw [hi] at q; omega) p e s m args below meth c X σ H locs lr hR hex hlo hL))
theorem aw_icmp_le {x y : Int} {off : Int} {tg : Nat} (hd : decode cc pc = .ok (.if_icmp .le off, 3)) (ht : (pc : Int) + off = (tg : Int)) (hx : hb_in x) (hy : hb_in y) (kt : x ≤ y → hb_W l own cc nL ret nm tb E z0 R σ0 N0 o h' N' kc ks tg ls st h N) (kf : y < x → hb_W l own cc nL ret nm tb E z0 R σ0 N0 o h' N' kc ks (pc + 3) ls st h N) : hb_W l own cc nL ret nm tb E z0 R σ0 N0 o h' N' kc ks pc ls (hb_i y :: hb_i x :: st) h N := by
  intro p e s m args below meth c X σ H locs lr hR hex hlo hL
  have hi := hb_le hx hy
  exact lv_icmp_le X.1 X.2.1 hd ht (fun q => (kt (by rw [hi] at q; omega) p e s m args below meth c X σ H locs lr hR hex hlo hL)) (fun q => (kf (by rw [hi] at q; omega) p e s m args below meth c X σ H locs lr hR hex hlo hL))
theorem aw_if_eq {x : Int} {off : Int} {tg : Nat} (hd : decode cc pc = .ok (.ifCond .eq off, 3)) (ht : (pc : Int) + off = (tg : Int)) (hx : hb_in x) (kt : x = 0 → hb_W l own cc nL ret nm tb E z0 R σ0 N0 o h' N' kc ks tg ls st h N) (kf : x ≠ 0 → hb_W l own cc nL ret nm tb E z0 R σ0 N0 o h' N' kc ks (pc + 3) ls st h N) : hb_W l own cc nL ret nm tb E z0 R σ0 N0 o h' N' kc ks pc ls (hb_i x :: st) h N := by
  intro p e s m args below meth c X σ H locs lr hR hex hlo hL
  have hi := (show (Int32.ofInt x = 0 ↔ x = 0) from hb_eq (b := 0) hx ⟨by omega, by omega⟩)
  exact lv_if_eq X.1 X.2.1 hd ht (fun q => (kt (by rw [hi] at q; omega) p e s m args below meth c X σ H locs lr hR hex hlo hL)) (fun q => (kf (by rw [hi] at q; omega) p e s m args below meth c X σ H locs lr hR hex hlo hL))
theorem aw_if_ne {x : Int} {off : Int} {tg : Nat} (hd : decode cc pc = .ok (.ifCond .ne off, 3)) (ht : (pc : Int) + off = (tg : Int)) (hx : hb_in x) (kt : x ≠ 0 → hb_W l own cc nL ret nm tb E z0 R σ0 N0 o h' N' kc ks tg ls st h N) (kf : x = 0 → hb_W l own cc nL ret nm tb E z0 R σ0 N0 o h' N' kc ks (pc + 3) ls st h N) : hb_W l own cc nL ret nm tb E z0 R σ0 N0 o h' N' kc ks pc ls (hb_i x :: st) h N := by
  intro p e s m args below meth c X σ H locs lr hR hex hlo hL
  have hi := (show (Int32.ofInt x = 0 ↔ x = 0) from hb_eq (b := 0) hx ⟨by omega, by omega⟩)
  exact lv_if_ne X.1 X.2.1 hd ht (fun q => (kt (by rw [hi] at q; omega) p e s m args below meth c X σ H locs lr hR hex hlo hL)) (fun q => (kf (by rw [hi] at q; omega) p e s m args below meth c X σ H locs lr hR hex hlo hL))
theorem aw_if_lt {x : Int} {off : Int} {tg : Nat} (hd : decode cc pc = .ok (.ifCond .lt off, 3)) (ht : (pc : Int) + off = (tg : Int)) (hx : hb_in x) (kt : x < 0 → hb_W l own cc nL ret nm tb E z0 R σ0 N0 o h' N' kc ks tg ls st h N) (kf : 0 ≤ x → hb_W l own cc nL ret nm tb E z0 R σ0 N0 o h' N' kc ks (pc + 3) ls st h N) : hb_W l own cc nL ret nm tb E z0 R σ0 N0 o h' N' kc ks pc ls (hb_i x :: st) h N := by
  intro p e s m args below meth c X σ H locs lr hR hex hlo hL
  have hi := (show (Int32.ofInt x < 0 ↔ x < 0) from hb_lt (b := 0) hx ⟨by omega, by omega⟩)
  exact lv_if_lt X.1 X.2.1 hd ht (fun q => (kt (by rw [hi] at q; omega) p e s m args below meth c X σ H locs lr hR hex hlo hL)) (fun q => (kf (by rw [hi] at q; omega) p e s m args below meth c X σ H locs lr hR hex hlo hL))
theorem aw_if_ge {x : Int} {off : Int} {tg : Nat} (hd : decode cc pc = .ok (.ifCond .ge off, 3)) (ht : (pc : Int) + off = (tg : Int)) (hx : hb_in x) (kt : 0 ≤ x → hb_W l own cc nL ret nm tb E z0 R σ0 N0 o h' N' kc ks tg ls st h N) (kf : x < 0 → hb_W l own cc nL ret nm tb E z0 R σ0 N0 o h' N' kc ks (pc + 3) ls st h N) : hb_W l own cc nL ret nm tb E z0 R σ0 N0 o h' N' kc ks pc ls (hb_i x :: st) h N := by
  intro p e s m args below meth c X σ H locs lr hR hex hlo hL
  have hi := (show (0 ≤ Int32.ofInt x ↔ 0 ≤ x) from hb_le (a := 0) ⟨by omega, by omega⟩ hx)
  exact lv_if_ge X.1 X.2.1 hd ht (fun q => (kt (by rw [hi] at q; omega) p e s m args below meth c X σ H locs lr hR hex hlo hL)) (fun q => (kf (by rw [hi] at q; omega) p e s m args below meth c X σ H locs lr hR hex hlo hL))
theorem aw_if_gt {x : Int} {off : Int} {tg : Nat} (hd : decode cc pc = .ok (.ifCond .gt off, 3)) (ht : (pc : Int) + off = (tg : Int)) (hx : hb_in x) (kt : 0 < x → hb_W l own cc nL ret nm tb E z0 R σ0 N0 o h' N' kc ks tg ls st h N) (kf : x ≤ 0 → hb_W l own cc nL ret nm tb E z0 R σ0 N0 o h' N' kc ks (pc + 3) ls st h N) : hb_W l own cc nL ret nm tb E z0 R σ0 N0 o h' N' kc ks pc ls (hb_i x :: st) h N := by
  intro p e s m args below meth c X σ H locs lr hR hex hlo hL
  have hi := (show (0 < Int32.ofInt x ↔ 0 < x) from hb_lt (a := 0) ⟨by omega, by omega⟩ hx)
  exact lv_if_gt X.1 X.2.1 hd ht (fun q => (kt (by rw [hi] at q; omega) p e s m args below meth c X σ H locs lr hR hex hlo hL)) (fun q => (kf (by rw [hi] at q; omega) p e s m args below meth c X σ H locs lr hR hex hlo hL))
theorem aw_if_le {x : Int} {off : Int} {tg : Nat} (hd : decode cc pc = .ok (.ifCond .le off, 3)) (ht : (pc : Int) + off = (tg : Int)) (hx : hb_in x) (kt : x ≤ 0 → hb_W l own cc nL ret nm tb E z0 R σ0 N0 o h' N' kc ks tg ls st h N) (kf : 0 < x → hb_W l own cc nL ret nm tb E z0 R σ0 N0 o h' N' kc ks (pc + 3) ls st h N) : hb_W l own cc nL ret nm tb E z0 R σ0 N0 o h' N' kc ks pc ls (hb_i x :: st) h N := by
  intro p e s m args below meth c X σ H locs lr hR hex hlo hL
  have hi := (show (Int32.ofInt x ≤ 0 ↔ x ≤ 0) from hb_le (b := 0) hx ⟨by omega, by omega⟩)
  exact lv_if_le X.1 X.2.1 hd ht (fun q => (kt (by rw [hi] at q; omega) p e s m args below meth c X σ H locs lr hR hex hlo hL)) (fun q => (kf (by rw [hi] at q; omega) p e s m args below meth c X σ H locs lr hR hex hlo hL))
theorem aw_tableIn {x dflt lo hi off : Int} {offs : Array Int} {len tg : Nat} (hd : decode cc pc = .ok (.tableswitch dflt lo hi offs, len)) (hx : hb_in x) (h1 : lo ≤ x) (h2 : x ≤ hi) (ho : offs[(x - lo).toNat]? = some off) (ht : (pc : Int) + off = (tg : Int)) (k : hb_W l own cc nL ret nm tb E z0 R σ0 N0 o h' N' kc ks tg ls st h N) : hb_W l own cc nL ret nm tb E z0 R σ0 N0 o h' N' kc ks pc ls (hb_i x :: st) h N := by
  intro p e s m args below meth c X σ H locs lr hR hex hlo hL
  exact lv_tableIn X.1 X.2.1 hd (by rw [hb_ti hx]; omega) (by rw [hb_ti hx]; omega) (by rw [hb_ti hx]; exact ho) ht (k p e s m args below meth c X σ H locs lr hR hex hlo hL)
theorem aw_tableOut {x dflt lo hi : Int} {offs : Array Int} {len tg : Nat} (hd : decode cc pc = .ok (.tableswitch dflt lo hi offs, len)) (hx : hb_in x) (h1 : x < lo ∨ hi < x) (ht : (pc : Int) + dflt = (tg : Int)) (k : hb_W l own cc nL ret nm tb E z0 R σ0 N0 o h' N' kc ks tg ls st h N) : hb_W l own cc nL ret nm tb E z0 R σ0 N0 o h' N' kc ks pc ls (hb_i x :: st) h N := by
  intro p e s m args below meth c X σ H locs lr hR hex hlo hL
  exact lv_tableOut X.1 X.2.1 hd (by rw [hb_ti hx]; exact h1) ht (k p e s m args below meth c X σ H locs lr hR hex hlo hL)
theorem aw_lookup {x dflt off : Int} {ps : Array (Int × Int)} {len tg : Nat} (hd : decode cc pc = .ok (.lookupswitch dflt ps, len)) (hx : hb_in x) (hp : (ps.toList.zip (ps.toList.drop 1)).all (fun (a, next) => a.1 < next.1) = true) (ho : Op.lookupswitch.offset ps.toList dflt x = off) (ht : (pc : Int) + off = (tg : Int)) (k : hb_W l own cc nL ret nm tb E z0 R σ0 N0 o h' N' kc ks tg ls st h N) : hb_W l own cc nL ret nm tb E z0 R σ0 N0 o h' N' kc ks pc ls (hb_i x :: st) h N := by
  intro p e s m args below meth c X σ H locs lr hR hex hlo hL
  exact lv_lookup X.1 X.2.1 hd hp (by rw [hb_ti hx]; exact ho) ht (k p e s m args below meth c X σ H locs lr hR hex hlo hL)
theorem hb_L.at {σ : Nat → Nat} {lr : Array Slot} (hL : hb_L σ nL lr ls) {k : Nat} {v : hb_V} (hk : ls[k]? = some v) : lr[k]? = some (.val (hb_cv σ v)) := hL.2.2.2 k v hk
theorem hb_L.drop {σ : Nat → Nat} {lr : Array Slot} {ls2 : List hb_V} (hL : hb_L σ nL lr (ls ++ ls2)) : hb_L σ nL lr ls := ⟨hL.1, hL.2.1, fun v hv => hL.2.2.1 v (List.mem_append_left _ hv), fun k v hk => hL.2.2.2 k v (by rw [List.getElem?_append_left ((List.getElem?_eq_some_iff.mp hk).1)]; exact hk)⟩
def hb_lv (σ : Nat → Nat) (ls : List hb_V) : List (Nat × Value) := (List.range ls.length).map (fun k => (k, hb_cv σ (ls.getD k hb_n)))
theorem hb_lv_at {σ : Nat → Nat} {k : Nat} {v : hb_V} (hk : ls[k]? = some v) : (hb_lv σ ls)[k]? = some (k, hb_cv σ v) := by
  have hl := (List.getElem?_eq_some_iff.mp hk).1
  unfold hb_lv
  rw [List.getElem?_map, List.getElem?_range hl]
  simp only [Option.map_some, List.getD_eq_getElem?_getD, hk, Option.getD_some]
theorem hb_L.has {σ : Nat → Nat} {lr : Array Slot} (hL : hb_L σ nL lr ls) : lv_has lr nL (hb_lv σ ls) := by
  refine ⟨hL.1, hL.2.1, fun q hq => ?_⟩
  obtain ⟨k, hk, rfl⟩ := List.mem_map.mp hq
  have hk := List.mem_range.mp hk
  refine hL.2.2.2 k _ ?_
  rw [List.getD_eq_getElem?_getD, List.getElem?_eq_getElem hk]
  rfl
theorem hb_L.put {σ : Nat → Nat} {lr lr2 : Array Slot} {i : Nat} {v : hb_V} {ls2 : List hb_V} (hL : hb_L σ nL lr ls) (hv : hb_nl v = true) (hi : i < nL) (hs : lv_has lr2 nL ((i, hb_cv σ v) :: (hb_lv σ ls).filter (fun q => !(q.1 == i) && !(q.1 + 1 == i && q.2.category == 2))))
    (h2 : ∀ (k : Nat) (w : hb_V), ls2[k]? = some w → (k = i ∧ w = v) ∨ (k ≠ i ∧ ls[k]? = some w)) : hb_L σ nL lr2 ls2 := by
  have key : ∀ w ∈ ls2, w = v ∨ w ∈ ls := by
    intro w hw
    obtain ⟨k, hk⟩ := List.getElem?_of_mem hw
    rcases h2 k w hk with ⟨-, rfl⟩ | ⟨-, h3⟩
    · exact Or.inl rfl
    · exact Or.inr (List.mem_of_getElem? h3)
  refine ⟨hs.1, hs.2.1, fun w hw => ?_, fun k w hk => ?_⟩
  · rcases key w hw with rfl | h3
    · exact hv
    · exact hL.2.2.1 w h3
  · rcases h2 k w hk with ⟨rfl, rfl⟩ | ⟨hne, h3⟩
    · exact hs.2.2 _ List.mem_cons_self
    · refine hs.2.2 (k, hb_cv σ w) (List.mem_cons_of_mem _ (List.mem_filter.mpr ⟨?_, ?_⟩))
      · have hl := (List.getElem?_eq_some_iff.mp h3).1
        refine List.mem_map.mpr ⟨k, List.mem_range.mpr hl, ?_⟩
        rw [List.getD_eq_getElem?_getD, h3]
        rfl
      · have hc := hb_cat (σ := σ) (hL.2.2.1 w (List.mem_of_getElem? h3))
        simp [hc, hne]
theorem aw_ild0 {z : Int} {tl : List hb_V} (hd : decode cc pc = .ok (.iload_n 0, 1)) (k : hb_W l own cc nL ret nm tb E z0 R σ0 N0 o h' N' kc ks (pc + 1) (hb_i z :: tl) (hb_i z :: st) h N) : hb_W l own cc nL ret nm tb E z0 R σ0 N0 o h' N' kc ks pc (hb_i z :: tl) st h N := by
  intro p e s m args below meth c X σ H locs lr hR hex hlo hL
  exact (lv_iload_n X.1 X.2.1 hd rfl (hL.at (k := 0) rfl) (k p e s m args below meth c X σ H locs lr hR hex hlo hL))
theorem aw_ald0 {q : Nat} {tl : List hb_V} (hd : decode cc pc = .ok (.aload_n 0, 1)) (k : hb_W l own cc nL ret nm tb E z0 R σ0 N0 o h' N' kc ks (pc + 1) (hb_r q :: tl) (hb_r q :: st) h N) : hb_W l own cc nL ret nm tb E z0 R σ0 N0 o h' N' kc ks pc (hb_r q :: tl) st h N := by
  intro p e s m args below meth c X σ H locs lr hR hex hlo hL
  exact (lv_aload_n X.1 X.2.1 hd rfl (hL.at (k := 0) rfl) (k p e s m args below meth c X σ H locs lr hR hex hlo hL))
theorem aw_iinc0 {z n : Int} {tl : List hb_V} (hd : decode cc pc = .ok (.iinc 0 n, 3)) (hn : 0 < nL) (k : hb_W l own cc nL ret nm tb E z0 R σ0 N0 o h' N' kc ks (pc + 3) (hb_i (z + n) :: tl) st h N) : hb_W l own cc nL ret nm tb E z0 R σ0 N0 o h' N' kc ks pc (hb_i z :: tl) st h N := by
  intro p e s m args below meth c X σ H locs lr hR hex hlo hL
  refine lv_iinc (k := 0) (x := Int32.ofInt z) X.1 X.2.1 hd hL.has ?_ rfl hn rfl (fun lr2 hs => ?_)
  · exact hb_lv_at (v := hb_i z) rfl
  · exact k p e s m args below meth c X σ H locs lr2 hR hex hlo (hL.put (v := hb_i (z + n)) rfl hn (by rw [show hb_cv σ (hb_i (z + n)) = .int (Int32.ofInt z + Int32.ofInt n) by rw [← Int32.ofInt_add]; rfl]; exact hs) (hb_set 0 rfl rfl))
theorem aw_ist0 {w : hb_V} {z : Int} {tl : List hb_V} (hd : decode cc pc = .ok (.istore_n 0, 1)) (hn : 0 < nL) (k : hb_W l own cc nL ret nm tb E z0 R σ0 N0 o h' N' kc ks (pc + 1) (hb_i z :: tl) st h N) : hb_W l own cc nL ret nm tb E z0 R σ0 N0 o h' N' kc ks pc (w :: tl) (hb_i z :: st) h N := by
  intro p e s m args below meth c X σ H locs lr hR hex hlo hL
  exact lv_istore_n X.1 X.2.1 hd rfl hL.has hn rfl (fun lr2 hs => k p e s m args below meth c X σ H locs lr2 hR hex hlo (hL.put (v := hb_i z) rfl hn hs (hb_set 0 rfl rfl)))
theorem aw_ipu0 {z : Int} (hd : decode cc pc = .ok (.istore_n 0, 1)) (hn : 0 < nL) (k : hb_W l own cc nL ret nm tb E z0 R σ0 N0 o h' N' kc ks (pc + 1) [hb_i z] st h N) : hb_W l own cc nL ret nm tb E z0 R σ0 N0 o h' N' kc ks pc [] (hb_i z :: st) h N := by
  intro p e s m args below meth c X σ H locs lr hR hex hlo hL
  exact lv_istore_n X.1 X.2.1 hd rfl hL.has hn rfl (fun lr2 hs => k p e s m args below meth c X σ H locs lr2 hR hex hlo (hL.put (v := hb_i z) rfl hn hs (hb_push ⟨rfl, rfl⟩)))
theorem aw_ast0 {w : hb_V} {q : Nat} {tl : List hb_V} (hd : decode cc pc = .ok (.astore_n 0, 1)) (hn : 0 < nL) (k : hb_W l own cc nL ret nm tb E z0 R σ0 N0 o h' N' kc ks (pc + 1) (hb_r q :: tl) st h N) : hb_W l own cc nL ret nm tb E z0 R σ0 N0 o h' N' kc ks pc (w :: tl) (hb_r q :: st) h N := by
  intro p e s m args below meth c X σ H locs lr hR hex hlo hL
  exact lv_astore_n X.1 X.2.1 hd rfl hL.has hn rfl (fun lr2 hs => k p e s m args below meth c X σ H locs lr2 hR hex hlo (hL.put (v := hb_r q) rfl hn hs (hb_set 0 rfl rfl)))
theorem aw_apu0 {q : Nat} (hd : decode cc pc = .ok (.astore_n 0, 1)) (hn : 0 < nL) (k : hb_W l own cc nL ret nm tb E z0 R σ0 N0 o h' N' kc ks (pc + 1) [hb_r q] st h N) : hb_W l own cc nL ret nm tb E z0 R σ0 N0 o h' N' kc ks pc [] (hb_r q :: st) h N := by
  intro p e s m args below meth c X σ H locs lr hR hex hlo hL
  exact lv_astore_n X.1 X.2.1 hd rfl hL.has hn rfl (fun lr2 hs => k p e s m args below meth c X σ H locs lr2 hR hex hlo (hL.put (v := hb_r q) rfl hn hs (hb_push ⟨rfl, rfl⟩)))
theorem aw_ild1 {a0 : hb_V} {z : Int} {tl : List hb_V} (hd : decode cc pc = .ok (.iload_n 1, 1)) (k : hb_W l own cc nL ret nm tb E z0 R σ0 N0 o h' N' kc ks (pc + 1) (a0 :: hb_i z :: tl) (hb_i z :: st) h N) : hb_W l own cc nL ret nm tb E z0 R σ0 N0 o h' N' kc ks pc (a0 :: hb_i z :: tl) st h N := by
  intro p e s m args below meth c X σ H locs lr hR hex hlo hL
  exact (lv_iload_n X.1 X.2.1 hd rfl (hL.at (k := 1) rfl) (k p e s m args below meth c X σ H locs lr hR hex hlo hL))
theorem aw_ald1 {a0 : hb_V} {q : Nat} {tl : List hb_V} (hd : decode cc pc = .ok (.aload_n 1, 1)) (k : hb_W l own cc nL ret nm tb E z0 R σ0 N0 o h' N' kc ks (pc + 1) (a0 :: hb_r q :: tl) (hb_r q :: st) h N) : hb_W l own cc nL ret nm tb E z0 R σ0 N0 o h' N' kc ks pc (a0 :: hb_r q :: tl) st h N := by
  intro p e s m args below meth c X σ H locs lr hR hex hlo hL
  exact (lv_aload_n X.1 X.2.1 hd rfl (hL.at (k := 1) rfl) (k p e s m args below meth c X σ H locs lr hR hex hlo hL))
theorem aw_iinc1 {a0 : hb_V} {z n : Int} {tl : List hb_V} (hd : decode cc pc = .ok (.iinc 1 n, 3)) (hn : 1 < nL) (k : hb_W l own cc nL ret nm tb E z0 R σ0 N0 o h' N' kc ks (pc + 3) (a0 :: hb_i (z + n) :: tl) st h N) : hb_W l own cc nL ret nm tb E z0 R σ0 N0 o h' N' kc ks pc (a0 :: hb_i z :: tl) st h N := by
  intro p e s m args below meth c X σ H locs lr hR hex hlo hL
  refine lv_iinc (k := 1) (x := Int32.ofInt z) X.1 X.2.1 hd hL.has ?_ rfl hn rfl (fun lr2 hs => ?_)
  · exact hb_lv_at (v := hb_i z) rfl
  · exact k p e s m args below meth c X σ H locs lr2 hR hex hlo (hL.put (v := hb_i (z + n)) rfl hn (by rw [show hb_cv σ (hb_i (z + n)) = .int (Int32.ofInt z + Int32.ofInt n) by rw [← Int32.ofInt_add]; rfl]; exact hs) (hb_set 1 rfl rfl))
theorem aw_ist1 {a0 : hb_V} {w : hb_V} {z : Int} {tl : List hb_V} (hd : decode cc pc = .ok (.istore_n 1, 1)) (hn : 1 < nL) (k : hb_W l own cc nL ret nm tb E z0 R σ0 N0 o h' N' kc ks (pc + 1) (a0 :: hb_i z :: tl) st h N) : hb_W l own cc nL ret nm tb E z0 R σ0 N0 o h' N' kc ks pc (a0 :: w :: tl) (hb_i z :: st) h N := by
  intro p e s m args below meth c X σ H locs lr hR hex hlo hL
  exact lv_istore_n X.1 X.2.1 hd rfl hL.has hn rfl (fun lr2 hs => k p e s m args below meth c X σ H locs lr2 hR hex hlo (hL.put (v := hb_i z) rfl hn hs (hb_set 1 rfl rfl)))
theorem aw_ipu1 {a0 : hb_V} {z : Int} (hd : decode cc pc = .ok (.istore_n 1, 1)) (hn : 1 < nL) (k : hb_W l own cc nL ret nm tb E z0 R σ0 N0 o h' N' kc ks (pc + 1) [a0, hb_i z] st h N) : hb_W l own cc nL ret nm tb E z0 R σ0 N0 o h' N' kc ks pc [a0] (hb_i z :: st) h N := by
  intro p e s m args below meth c X σ H locs lr hR hex hlo hL
  exact lv_istore_n X.1 X.2.1 hd rfl hL.has hn rfl (fun lr2 hs => k p e s m args below meth c X σ H locs lr2 hR hex hlo (hL.put (v := hb_i z) rfl hn hs (hb_push ⟨rfl, rfl⟩)))
theorem aw_ast1 {a0 : hb_V} {w : hb_V} {q : Nat} {tl : List hb_V} (hd : decode cc pc = .ok (.astore_n 1, 1)) (hn : 1 < nL) (k : hb_W l own cc nL ret nm tb E z0 R σ0 N0 o h' N' kc ks (pc + 1) (a0 :: hb_r q :: tl) st h N) : hb_W l own cc nL ret nm tb E z0 R σ0 N0 o h' N' kc ks pc (a0 :: w :: tl) (hb_r q :: st) h N := by
  intro p e s m args below meth c X σ H locs lr hR hex hlo hL
  exact lv_astore_n X.1 X.2.1 hd rfl hL.has hn rfl (fun lr2 hs => k p e s m args below meth c X σ H locs lr2 hR hex hlo (hL.put (v := hb_r q) rfl hn hs (hb_set 1 rfl rfl)))
theorem aw_apu1 {a0 : hb_V} {q : Nat} (hd : decode cc pc = .ok (.astore_n 1, 1)) (hn : 1 < nL) (k : hb_W l own cc nL ret nm tb E z0 R σ0 N0 o h' N' kc ks (pc + 1) [a0, hb_r q] st h N) : hb_W l own cc nL ret nm tb E z0 R σ0 N0 o h' N' kc ks pc [a0] (hb_r q :: st) h N := by
  intro p e s m args below meth c X σ H locs lr hR hex hlo hL
  exact lv_astore_n X.1 X.2.1 hd rfl hL.has hn rfl (fun lr2 hs => k p e s m args below meth c X σ H locs lr2 hR hex hlo (hL.put (v := hb_r q) rfl hn hs (hb_push ⟨rfl, rfl⟩)))
theorem aw_ild2 {a0 a1 : hb_V} {z : Int} {tl : List hb_V} (hd : decode cc pc = .ok (.iload_n 2, 1)) (k : hb_W l own cc nL ret nm tb E z0 R σ0 N0 o h' N' kc ks (pc + 1) (a0 :: a1 :: hb_i z :: tl) (hb_i z :: st) h N) : hb_W l own cc nL ret nm tb E z0 R σ0 N0 o h' N' kc ks pc (a0 :: a1 :: hb_i z :: tl) st h N := by
  intro p e s m args below meth c X σ H locs lr hR hex hlo hL
  exact (lv_iload_n X.1 X.2.1 hd rfl (hL.at (k := 2) rfl) (k p e s m args below meth c X σ H locs lr hR hex hlo hL))
theorem aw_ald2 {a0 a1 : hb_V} {q : Nat} {tl : List hb_V} (hd : decode cc pc = .ok (.aload_n 2, 1)) (k : hb_W l own cc nL ret nm tb E z0 R σ0 N0 o h' N' kc ks (pc + 1) (a0 :: a1 :: hb_r q :: tl) (hb_r q :: st) h N) : hb_W l own cc nL ret nm tb E z0 R σ0 N0 o h' N' kc ks pc (a0 :: a1 :: hb_r q :: tl) st h N := by
  intro p e s m args below meth c X σ H locs lr hR hex hlo hL
  exact (lv_aload_n X.1 X.2.1 hd rfl (hL.at (k := 2) rfl) (k p e s m args below meth c X σ H locs lr hR hex hlo hL))
theorem aw_iinc2 {a0 a1 : hb_V} {z n : Int} {tl : List hb_V} (hd : decode cc pc = .ok (.iinc 2 n, 3)) (hn : 2 < nL) (k : hb_W l own cc nL ret nm tb E z0 R σ0 N0 o h' N' kc ks (pc + 3) (a0 :: a1 :: hb_i (z + n) :: tl) st h N) : hb_W l own cc nL ret nm tb E z0 R σ0 N0 o h' N' kc ks pc (a0 :: a1 :: hb_i z :: tl) st h N := by
  intro p e s m args below meth c X σ H locs lr hR hex hlo hL
  refine lv_iinc (k := 2) (x := Int32.ofInt z) X.1 X.2.1 hd hL.has ?_ rfl hn rfl (fun lr2 hs => ?_)
  · exact hb_lv_at (v := hb_i z) rfl
  · exact k p e s m args below meth c X σ H locs lr2 hR hex hlo (hL.put (v := hb_i (z + n)) rfl hn (by rw [show hb_cv σ (hb_i (z + n)) = .int (Int32.ofInt z + Int32.ofInt n) by rw [← Int32.ofInt_add]; rfl]; exact hs) (hb_set 2 rfl rfl))
theorem aw_ist2 {a0 a1 : hb_V} {w : hb_V} {z : Int} {tl : List hb_V} (hd : decode cc pc = .ok (.istore_n 2, 1)) (hn : 2 < nL) (k : hb_W l own cc nL ret nm tb E z0 R σ0 N0 o h' N' kc ks (pc + 1) (a0 :: a1 :: hb_i z :: tl) st h N) : hb_W l own cc nL ret nm tb E z0 R σ0 N0 o h' N' kc ks pc (a0 :: a1 :: w :: tl) (hb_i z :: st) h N := by
  intro p e s m args below meth c X σ H locs lr hR hex hlo hL
  exact lv_istore_n X.1 X.2.1 hd rfl hL.has hn rfl (fun lr2 hs => k p e s m args below meth c X σ H locs lr2 hR hex hlo (hL.put (v := hb_i z) rfl hn hs (hb_set 2 rfl rfl)))
theorem aw_ipu2 {a0 a1 : hb_V} {z : Int} (hd : decode cc pc = .ok (.istore_n 2, 1)) (hn : 2 < nL) (k : hb_W l own cc nL ret nm tb E z0 R σ0 N0 o h' N' kc ks (pc + 1) [a0, a1, hb_i z] st h N) : hb_W l own cc nL ret nm tb E z0 R σ0 N0 o h' N' kc ks pc [a0, a1] (hb_i z :: st) h N := by
  intro p e s m args below meth c X σ H locs lr hR hex hlo hL
  exact lv_istore_n X.1 X.2.1 hd rfl hL.has hn rfl (fun lr2 hs => k p e s m args below meth c X σ H locs lr2 hR hex hlo (hL.put (v := hb_i z) rfl hn hs (hb_push ⟨rfl, rfl⟩)))
theorem aw_ast2 {a0 a1 : hb_V} {w : hb_V} {q : Nat} {tl : List hb_V} (hd : decode cc pc = .ok (.astore_n 2, 1)) (hn : 2 < nL) (k : hb_W l own cc nL ret nm tb E z0 R σ0 N0 o h' N' kc ks (pc + 1) (a0 :: a1 :: hb_r q :: tl) st h N) : hb_W l own cc nL ret nm tb E z0 R σ0 N0 o h' N' kc ks pc (a0 :: a1 :: w :: tl) (hb_r q :: st) h N := by
  intro p e s m args below meth c X σ H locs lr hR hex hlo hL
  exact lv_astore_n X.1 X.2.1 hd rfl hL.has hn rfl (fun lr2 hs => k p e s m args below meth c X σ H locs lr2 hR hex hlo (hL.put (v := hb_r q) rfl hn hs (hb_set 2 rfl rfl)))
theorem aw_apu2 {a0 a1 : hb_V} {q : Nat} (hd : decode cc pc = .ok (.astore_n 2, 1)) (hn : 2 < nL) (k : hb_W l own cc nL ret nm tb E z0 R σ0 N0 o h' N' kc ks (pc + 1) [a0, a1, hb_r q] st h N) : hb_W l own cc nL ret nm tb E z0 R σ0 N0 o h' N' kc ks pc [a0, a1] (hb_r q :: st) h N := by
  intro p e s m args below meth c X σ H locs lr hR hex hlo hL
  exact lv_astore_n X.1 X.2.1 hd rfl hL.has hn rfl (fun lr2 hs => k p e s m args below meth c X σ H locs lr2 hR hex hlo (hL.put (v := hb_r q) rfl hn hs (hb_push ⟨rfl, rfl⟩)))
theorem aw_ild3 {a0 a1 a2 : hb_V} {z : Int} {tl : List hb_V} (hd : decode cc pc = .ok (.iload_n 3, 1)) (k : hb_W l own cc nL ret nm tb E z0 R σ0 N0 o h' N' kc ks (pc + 1) (a0 :: a1 :: a2 :: hb_i z :: tl) (hb_i z :: st) h N) : hb_W l own cc nL ret nm tb E z0 R σ0 N0 o h' N' kc ks pc (a0 :: a1 :: a2 :: hb_i z :: tl) st h N := by
  intro p e s m args below meth c X σ H locs lr hR hex hlo hL
  exact (lv_iload_n X.1 X.2.1 hd rfl (hL.at (k := 3) rfl) (k p e s m args below meth c X σ H locs lr hR hex hlo hL))
theorem aw_ald3 {a0 a1 a2 : hb_V} {q : Nat} {tl : List hb_V} (hd : decode cc pc = .ok (.aload_n 3, 1)) (k : hb_W l own cc nL ret nm tb E z0 R σ0 N0 o h' N' kc ks (pc + 1) (a0 :: a1 :: a2 :: hb_r q :: tl) (hb_r q :: st) h N) : hb_W l own cc nL ret nm tb E z0 R σ0 N0 o h' N' kc ks pc (a0 :: a1 :: a2 :: hb_r q :: tl) st h N := by
  intro p e s m args below meth c X σ H locs lr hR hex hlo hL
  exact (lv_aload_n X.1 X.2.1 hd rfl (hL.at (k := 3) rfl) (k p e s m args below meth c X σ H locs lr hR hex hlo hL))
theorem aw_iinc3 {a0 a1 a2 : hb_V} {z n : Int} {tl : List hb_V} (hd : decode cc pc = .ok (.iinc 3 n, 3)) (hn : 3 < nL) (k : hb_W l own cc nL ret nm tb E z0 R σ0 N0 o h' N' kc ks (pc + 3) (a0 :: a1 :: a2 :: hb_i (z + n) :: tl) st h N) : hb_W l own cc nL ret nm tb E z0 R σ0 N0 o h' N' kc ks pc (a0 :: a1 :: a2 :: hb_i z :: tl) st h N := by
  intro p e s m args below meth c X σ H locs lr hR hex hlo hL
  refine lv_iinc (k := 3) (x := Int32.ofInt z) X.1 X.2.1 hd hL.has ?_ rfl hn rfl (fun lr2 hs => ?_)
  · exact hb_lv_at (v := hb_i z) rfl
  · exact k p e s m args below meth c X σ H locs lr2 hR hex hlo (hL.put (v := hb_i (z + n)) rfl hn (by rw [show hb_cv σ (hb_i (z + n)) = .int (Int32.ofInt z + Int32.ofInt n) by rw [← Int32.ofInt_add]; rfl]; exact hs) (hb_set 3 rfl rfl))
theorem aw_ist3 {a0 a1 a2 : hb_V} {w : hb_V} {z : Int} {tl : List hb_V} (hd : decode cc pc = .ok (.istore_n 3, 1)) (hn : 3 < nL) (k : hb_W l own cc nL ret nm tb E z0 R σ0 N0 o h' N' kc ks (pc + 1) (a0 :: a1 :: a2 :: hb_i z :: tl) st h N) : hb_W l own cc nL ret nm tb E z0 R σ0 N0 o h' N' kc ks pc (a0 :: a1 :: a2 :: w :: tl) (hb_i z :: st) h N := by
  intro p e s m args below meth c X σ H locs lr hR hex hlo hL
  exact lv_istore_n X.1 X.2.1 hd rfl hL.has hn rfl (fun lr2 hs => k p e s m args below meth c X σ H locs lr2 hR hex hlo (hL.put (v := hb_i z) rfl hn hs (hb_set 3 rfl rfl)))
theorem aw_ipu3 {a0 a1 a2 : hb_V} {z : Int} (hd : decode cc pc = .ok (.istore_n 3, 1)) (hn : 3 < nL) (k : hb_W l own cc nL ret nm tb E z0 R σ0 N0 o h' N' kc ks (pc + 1) [a0, a1, a2, hb_i z] st h N) : hb_W l own cc nL ret nm tb E z0 R σ0 N0 o h' N' kc ks pc [a0, a1, a2] (hb_i z :: st) h N := by
  intro p e s m args below meth c X σ H locs lr hR hex hlo hL
  exact lv_istore_n X.1 X.2.1 hd rfl hL.has hn rfl (fun lr2 hs => k p e s m args below meth c X σ H locs lr2 hR hex hlo (hL.put (v := hb_i z) rfl hn hs (hb_push ⟨rfl, rfl⟩)))
theorem aw_ast3 {a0 a1 a2 : hb_V} {w : hb_V} {q : Nat} {tl : List hb_V} (hd : decode cc pc = .ok (.astore_n 3, 1)) (hn : 3 < nL) (k : hb_W l own cc nL ret nm tb E z0 R σ0 N0 o h' N' kc ks (pc + 1) (a0 :: a1 :: a2 :: hb_r q :: tl) st h N) : hb_W l own cc nL ret nm tb E z0 R σ0 N0 o h' N' kc ks pc (a0 :: a1 :: a2 :: w :: tl) (hb_r q :: st) h N := by
  intro p e s m args below meth c X σ H locs lr hR hex hlo hL
  exact lv_astore_n X.1 X.2.1 hd rfl hL.has hn rfl (fun lr2 hs => k p e s m args below meth c X σ H locs lr2 hR hex hlo (hL.put (v := hb_r q) rfl hn hs (hb_set 3 rfl rfl)))
theorem aw_apu3 {a0 a1 a2 : hb_V} {q : Nat} (hd : decode cc pc = .ok (.astore_n 3, 1)) (hn : 3 < nL) (k : hb_W l own cc nL ret nm tb E z0 R σ0 N0 o h' N' kc ks (pc + 1) [a0, a1, a2, hb_r q] st h N) : hb_W l own cc nL ret nm tb E z0 R σ0 N0 o h' N' kc ks pc [a0, a1, a2] (hb_r q :: st) h N := by
  intro p e s m args below meth c X σ H locs lr hR hex hlo hL
  exact lv_astore_n X.1 X.2.1 hd rfl hL.has hn rfl (fun lr2 hs => k p e s m args below meth c X σ H locs lr2 hR hex hlo (hL.put (v := hb_r q) rfl hn hs (hb_push ⟨rfl, rfl⟩)))
theorem aw_ild4 {a0 a1 a2 a3 : hb_V} {z : Int} {tl : List hb_V} (hd : decode cc pc = .ok (.iload 4, 2)) (k : hb_W l own cc nL ret nm tb E z0 R σ0 N0 o h' N' kc ks (pc + 2) (a0 :: a1 :: a2 :: a3 :: hb_i z :: tl) (hb_i z :: st) h N) : hb_W l own cc nL ret nm tb E z0 R σ0 N0 o h' N' kc ks pc (a0 :: a1 :: a2 :: a3 :: hb_i z :: tl) st h N := by
  intro p e s m args below meth c X σ H locs lr hR hex hlo hL
  exact (lv_iload X.1 X.2.1 hd (hL.at (k := 4) rfl) (k p e s m args below meth c X σ H locs lr hR hex hlo hL))
theorem aw_ald4 {a0 a1 a2 a3 : hb_V} {q : Nat} {tl : List hb_V} (hd : decode cc pc = .ok (.aload 4, 2)) (k : hb_W l own cc nL ret nm tb E z0 R σ0 N0 o h' N' kc ks (pc + 2) (a0 :: a1 :: a2 :: a3 :: hb_r q :: tl) (hb_r q :: st) h N) : hb_W l own cc nL ret nm tb E z0 R σ0 N0 o h' N' kc ks pc (a0 :: a1 :: a2 :: a3 :: hb_r q :: tl) st h N := by
  intro p e s m args below meth c X σ H locs lr hR hex hlo hL
  exact (lv_aload X.1 X.2.1 hd (hL.at (k := 4) rfl) (k p e s m args below meth c X σ H locs lr hR hex hlo hL))
theorem aw_iinc4 {a0 a1 a2 a3 : hb_V} {z n : Int} {tl : List hb_V} (hd : decode cc pc = .ok (.iinc 4 n, 3)) (hn : 4 < nL) (k : hb_W l own cc nL ret nm tb E z0 R σ0 N0 o h' N' kc ks (pc + 3) (a0 :: a1 :: a2 :: a3 :: hb_i (z + n) :: tl) st h N) : hb_W l own cc nL ret nm tb E z0 R σ0 N0 o h' N' kc ks pc (a0 :: a1 :: a2 :: a3 :: hb_i z :: tl) st h N := by
  intro p e s m args below meth c X σ H locs lr hR hex hlo hL
  refine lv_iinc (k := 4) (x := Int32.ofInt z) X.1 X.2.1 hd hL.has ?_ rfl hn rfl (fun lr2 hs => ?_)
  · exact hb_lv_at (v := hb_i z) rfl
  · exact k p e s m args below meth c X σ H locs lr2 hR hex hlo (hL.put (v := hb_i (z + n)) rfl hn (by rw [show hb_cv σ (hb_i (z + n)) = .int (Int32.ofInt z + Int32.ofInt n) by rw [← Int32.ofInt_add]; rfl]; exact hs) (hb_set 4 rfl rfl))
theorem aw_ist4 {a0 a1 a2 a3 : hb_V} {w : hb_V} {z : Int} {tl : List hb_V} (hd : decode cc pc = .ok (.istore 4, 2)) (hn : 4 < nL) (k : hb_W l own cc nL ret nm tb E z0 R σ0 N0 o h' N' kc ks (pc + 2) (a0 :: a1 :: a2 :: a3 :: hb_i z :: tl) st h N) : hb_W l own cc nL ret nm tb E z0 R σ0 N0 o h' N' kc ks pc (a0 :: a1 :: a2 :: a3 :: w :: tl) (hb_i z :: st) h N := by
  intro p e s m args below meth c X σ H locs lr hR hex hlo hL
  exact lv_istore X.1 X.2.1 hd hL.has hn rfl (fun lr2 hs => k p e s m args below meth c X σ H locs lr2 hR hex hlo (hL.put (v := hb_i z) rfl hn hs (hb_set 4 rfl rfl)))
theorem aw_ipu4 {a0 a1 a2 a3 : hb_V} {z : Int} (hd : decode cc pc = .ok (.istore 4, 2)) (hn : 4 < nL) (k : hb_W l own cc nL ret nm tb E z0 R σ0 N0 o h' N' kc ks (pc + 2) [a0, a1, a2, a3, hb_i z] st h N) : hb_W l own cc nL ret nm tb E z0 R σ0 N0 o h' N' kc ks pc [a0, a1, a2, a3] (hb_i z :: st) h N := by
  intro p e s m args below meth c X σ H locs lr hR hex hlo hL
  exact lv_istore X.1 X.2.1 hd hL.has hn rfl (fun lr2 hs => k p e s m args below meth c X σ H locs lr2 hR hex hlo (hL.put (v := hb_i z) rfl hn hs (hb_push ⟨rfl, rfl⟩)))
theorem aw_ast4 {a0 a1 a2 a3 : hb_V} {w : hb_V} {q : Nat} {tl : List hb_V} (hd : decode cc pc = .ok (.astore 4, 2)) (hn : 4 < nL) (k : hb_W l own cc nL ret nm tb E z0 R σ0 N0 o h' N' kc ks (pc + 2) (a0 :: a1 :: a2 :: a3 :: hb_r q :: tl) st h N) : hb_W l own cc nL ret nm tb E z0 R σ0 N0 o h' N' kc ks pc (a0 :: a1 :: a2 :: a3 :: w :: tl) (hb_r q :: st) h N := by
  intro p e s m args below meth c X σ H locs lr hR hex hlo hL
  exact lv_astore X.1 X.2.1 hd hL.has hn rfl (fun lr2 hs => k p e s m args below meth c X σ H locs lr2 hR hex hlo (hL.put (v := hb_r q) rfl hn hs (hb_set 4 rfl rfl)))
theorem aw_apu4 {a0 a1 a2 a3 : hb_V} {q : Nat} (hd : decode cc pc = .ok (.astore 4, 2)) (hn : 4 < nL) (k : hb_W l own cc nL ret nm tb E z0 R σ0 N0 o h' N' kc ks (pc + 2) [a0, a1, a2, a3, hb_r q] st h N) : hb_W l own cc nL ret nm tb E z0 R σ0 N0 o h' N' kc ks pc [a0, a1, a2, a3] (hb_r q :: st) h N := by
  intro p e s m args below meth c X σ H locs lr hR hex hlo hL
  exact lv_astore X.1 X.2.1 hd hL.has hn rfl (fun lr2 hs => k p e s m args below meth c X σ H locs lr2 hR hex hlo (hL.put (v := hb_r q) rfl hn hs (hb_push ⟨rfl, rfl⟩)))
theorem aw_ild5 {a0 a1 a2 a3 a4 : hb_V} {z : Int} {tl : List hb_V} (hd : decode cc pc = .ok (.iload 5, 2)) (k : hb_W l own cc nL ret nm tb E z0 R σ0 N0 o h' N' kc ks (pc + 2) (a0 :: a1 :: a2 :: a3 :: a4 :: hb_i z :: tl) (hb_i z :: st) h N) : hb_W l own cc nL ret nm tb E z0 R σ0 N0 o h' N' kc ks pc (a0 :: a1 :: a2 :: a3 :: a4 :: hb_i z :: tl) st h N := by
  intro p e s m args below meth c X σ H locs lr hR hex hlo hL
  exact (lv_iload X.1 X.2.1 hd (hL.at (k := 5) rfl) (k p e s m args below meth c X σ H locs lr hR hex hlo hL))
theorem aw_ald5 {a0 a1 a2 a3 a4 : hb_V} {q : Nat} {tl : List hb_V} (hd : decode cc pc = .ok (.aload 5, 2)) (k : hb_W l own cc nL ret nm tb E z0 R σ0 N0 o h' N' kc ks (pc + 2) (a0 :: a1 :: a2 :: a3 :: a4 :: hb_r q :: tl) (hb_r q :: st) h N) : hb_W l own cc nL ret nm tb E z0 R σ0 N0 o h' N' kc ks pc (a0 :: a1 :: a2 :: a3 :: a4 :: hb_r q :: tl) st h N := by
  intro p e s m args below meth c X σ H locs lr hR hex hlo hL
  exact (lv_aload X.1 X.2.1 hd (hL.at (k := 5) rfl) (k p e s m args below meth c X σ H locs lr hR hex hlo hL))
theorem aw_iinc5 {a0 a1 a2 a3 a4 : hb_V} {z n : Int} {tl : List hb_V} (hd : decode cc pc = .ok (.iinc 5 n, 3)) (hn : 5 < nL) (k : hb_W l own cc nL ret nm tb E z0 R σ0 N0 o h' N' kc ks (pc + 3) (a0 :: a1 :: a2 :: a3 :: a4 :: hb_i (z + n) :: tl) st h N) : hb_W l own cc nL ret nm tb E z0 R σ0 N0 o h' N' kc ks pc (a0 :: a1 :: a2 :: a3 :: a4 :: hb_i z :: tl) st h N := by
  intro p e s m args below meth c X σ H locs lr hR hex hlo hL
  refine lv_iinc (k := 5) (x := Int32.ofInt z) X.1 X.2.1 hd hL.has ?_ rfl hn rfl (fun lr2 hs => ?_)
  · exact hb_lv_at (v := hb_i z) rfl
  · exact k p e s m args below meth c X σ H locs lr2 hR hex hlo (hL.put (v := hb_i (z + n)) rfl hn (by rw [show hb_cv σ (hb_i (z + n)) = .int (Int32.ofInt z + Int32.ofInt n) by rw [← Int32.ofInt_add]; rfl]; exact hs) (hb_set 5 rfl rfl))
theorem aw_ist5 {a0 a1 a2 a3 a4 : hb_V} {w : hb_V} {z : Int} {tl : List hb_V} (hd : decode cc pc = .ok (.istore 5, 2)) (hn : 5 < nL) (k : hb_W l own cc nL ret nm tb E z0 R σ0 N0 o h' N' kc ks (pc + 2) (a0 :: a1 :: a2 :: a3 :: a4 :: hb_i z :: tl) st h N) : hb_W l own cc nL ret nm tb E z0 R σ0 N0 o h' N' kc ks pc (a0 :: a1 :: a2 :: a3 :: a4 :: w :: tl) (hb_i z :: st) h N := by
  intro p e s m args below meth c X σ H locs lr hR hex hlo hL
  exact lv_istore X.1 X.2.1 hd hL.has hn rfl (fun lr2 hs => k p e s m args below meth c X σ H locs lr2 hR hex hlo (hL.put (v := hb_i z) rfl hn hs (hb_set 5 rfl rfl)))
theorem aw_ipu5 {a0 a1 a2 a3 a4 : hb_V} {z : Int} (hd : decode cc pc = .ok (.istore 5, 2)) (hn : 5 < nL) (k : hb_W l own cc nL ret nm tb E z0 R σ0 N0 o h' N' kc ks (pc + 2) [a0, a1, a2, a3, a4, hb_i z] st h N) : hb_W l own cc nL ret nm tb E z0 R σ0 N0 o h' N' kc ks pc [a0, a1, a2, a3, a4] (hb_i z :: st) h N := by
  intro p e s m args below meth c X σ H locs lr hR hex hlo hL
  exact lv_istore X.1 X.2.1 hd hL.has hn rfl (fun lr2 hs => k p e s m args below meth c X σ H locs lr2 hR hex hlo (hL.put (v := hb_i z) rfl hn hs (hb_push ⟨rfl, rfl⟩)))
theorem aw_ast5 {a0 a1 a2 a3 a4 : hb_V} {w : hb_V} {q : Nat} {tl : List hb_V} (hd : decode cc pc = .ok (.astore 5, 2)) (hn : 5 < nL) (k : hb_W l own cc nL ret nm tb E z0 R σ0 N0 o h' N' kc ks (pc + 2) (a0 :: a1 :: a2 :: a3 :: a4 :: hb_r q :: tl) st h N) : hb_W l own cc nL ret nm tb E z0 R σ0 N0 o h' N' kc ks pc (a0 :: a1 :: a2 :: a3 :: a4 :: w :: tl) (hb_r q :: st) h N := by
  intro p e s m args below meth c X σ H locs lr hR hex hlo hL
  exact lv_astore X.1 X.2.1 hd hL.has hn rfl (fun lr2 hs => k p e s m args below meth c X σ H locs lr2 hR hex hlo (hL.put (v := hb_r q) rfl hn hs (hb_set 5 rfl rfl)))
theorem aw_apu5 {a0 a1 a2 a3 a4 : hb_V} {q : Nat} (hd : decode cc pc = .ok (.astore 5, 2)) (hn : 5 < nL) (k : hb_W l own cc nL ret nm tb E z0 R σ0 N0 o h' N' kc ks (pc + 2) [a0, a1, a2, a3, a4, hb_r q] st h N) : hb_W l own cc nL ret nm tb E z0 R σ0 N0 o h' N' kc ks pc [a0, a1, a2, a3, a4] (hb_r q :: st) h N := by
  intro p e s m args below meth c X σ H locs lr hR hex hlo hL
  exact lv_astore X.1 X.2.1 hd hL.has hn rfl (fun lr2 hs => k p e s m args below meth c X σ H locs lr2 hR hex hlo (hL.put (v := hb_r q) rfl hn hs (hb_push ⟨rfl, rfl⟩)))
theorem aw_ild6 {a0 a1 a2 a3 a4 a5 : hb_V} {z : Int} {tl : List hb_V} (hd : decode cc pc = .ok (.iload 6, 2)) (k : hb_W l own cc nL ret nm tb E z0 R σ0 N0 o h' N' kc ks (pc + 2) (a0 :: a1 :: a2 :: a3 :: a4 :: a5 :: hb_i z :: tl) (hb_i z :: st) h N) : hb_W l own cc nL ret nm tb E z0 R σ0 N0 o h' N' kc ks pc (a0 :: a1 :: a2 :: a3 :: a4 :: a5 :: hb_i z :: tl) st h N := by
  intro p e s m args below meth c X σ H locs lr hR hex hlo hL
  exact (lv_iload X.1 X.2.1 hd (hL.at (k := 6) rfl) (k p e s m args below meth c X σ H locs lr hR hex hlo hL))
theorem aw_ald6 {a0 a1 a2 a3 a4 a5 : hb_V} {q : Nat} {tl : List hb_V} (hd : decode cc pc = .ok (.aload 6, 2)) (k : hb_W l own cc nL ret nm tb E z0 R σ0 N0 o h' N' kc ks (pc + 2) (a0 :: a1 :: a2 :: a3 :: a4 :: a5 :: hb_r q :: tl) (hb_r q :: st) h N) : hb_W l own cc nL ret nm tb E z0 R σ0 N0 o h' N' kc ks pc (a0 :: a1 :: a2 :: a3 :: a4 :: a5 :: hb_r q :: tl) st h N := by
  intro p e s m args below meth c X σ H locs lr hR hex hlo hL
  exact (lv_aload X.1 X.2.1 hd (hL.at (k := 6) rfl) (k p e s m args below meth c X σ H locs lr hR hex hlo hL))
theorem aw_iinc6 {a0 a1 a2 a3 a4 a5 : hb_V} {z n : Int} {tl : List hb_V} (hd : decode cc pc = .ok (.iinc 6 n, 3)) (hn : 6 < nL) (k : hb_W l own cc nL ret nm tb E z0 R σ0 N0 o h' N' kc ks (pc + 3) (a0 :: a1 :: a2 :: a3 :: a4 :: a5 :: hb_i (z + n) :: tl) st h N) : hb_W l own cc nL ret nm tb E z0 R σ0 N0 o h' N' kc ks pc (a0 :: a1 :: a2 :: a3 :: a4 :: a5 :: hb_i z :: tl) st h N := by
  intro p e s m args below meth c X σ H locs lr hR hex hlo hL
  refine lv_iinc (k := 6) (x := Int32.ofInt z) X.1 X.2.1 hd hL.has ?_ rfl hn rfl (fun lr2 hs => ?_)
  · exact hb_lv_at (v := hb_i z) rfl
  · exact k p e s m args below meth c X σ H locs lr2 hR hex hlo (hL.put (v := hb_i (z + n)) rfl hn (by rw [show hb_cv σ (hb_i (z + n)) = .int (Int32.ofInt z + Int32.ofInt n) by rw [← Int32.ofInt_add]; rfl]; exact hs) (hb_set 6 rfl rfl))
theorem aw_ist6 {a0 a1 a2 a3 a4 a5 : hb_V} {w : hb_V} {z : Int} {tl : List hb_V} (hd : decode cc pc = .ok (.istore 6, 2)) (hn : 6 < nL) (k : hb_W l own cc nL ret nm tb E z0 R σ0 N0 o h' N' kc ks (pc + 2) (a0 :: a1 :: a2 :: a3 :: a4 :: a5 :: hb_i z :: tl) st h N) : hb_W l own cc nL ret nm tb E z0 R σ0 N0 o h' N' kc ks pc (a0 :: a1 :: a2 :: a3 :: a4 :: a5 :: w :: tl) (hb_i z :: st) h N := by
  intro p e s m args below meth c X σ H locs lr hR hex hlo hL
  exact lv_istore X.1 X.2.1 hd hL.has hn rfl (fun lr2 hs => k p e s m args below meth c X σ H locs lr2 hR hex hlo (hL.put (v := hb_i z) rfl hn hs (hb_set 6 rfl rfl)))
theorem aw_ipu6 {a0 a1 a2 a3 a4 a5 : hb_V} {z : Int} (hd : decode cc pc = .ok (.istore 6, 2)) (hn : 6 < nL) (k : hb_W l own cc nL ret nm tb E z0 R σ0 N0 o h' N' kc ks (pc + 2) [a0, a1, a2, a3, a4, a5, hb_i z] st h N) : hb_W l own cc nL ret nm tb E z0 R σ0 N0 o h' N' kc ks pc [a0, a1, a2, a3, a4, a5] (hb_i z :: st) h N := by
  intro p e s m args below meth c X σ H locs lr hR hex hlo hL
  exact lv_istore X.1 X.2.1 hd hL.has hn rfl (fun lr2 hs => k p e s m args below meth c X σ H locs lr2 hR hex hlo (hL.put (v := hb_i z) rfl hn hs (hb_push ⟨rfl, rfl⟩)))
theorem aw_ast6 {a0 a1 a2 a3 a4 a5 : hb_V} {w : hb_V} {q : Nat} {tl : List hb_V} (hd : decode cc pc = .ok (.astore 6, 2)) (hn : 6 < nL) (k : hb_W l own cc nL ret nm tb E z0 R σ0 N0 o h' N' kc ks (pc + 2) (a0 :: a1 :: a2 :: a3 :: a4 :: a5 :: hb_r q :: tl) st h N) : hb_W l own cc nL ret nm tb E z0 R σ0 N0 o h' N' kc ks pc (a0 :: a1 :: a2 :: a3 :: a4 :: a5 :: w :: tl) (hb_r q :: st) h N := by
  intro p e s m args below meth c X σ H locs lr hR hex hlo hL
  exact lv_astore X.1 X.2.1 hd hL.has hn rfl (fun lr2 hs => k p e s m args below meth c X σ H locs lr2 hR hex hlo (hL.put (v := hb_r q) rfl hn hs (hb_set 6 rfl rfl)))
theorem aw_apu6 {a0 a1 a2 a3 a4 a5 : hb_V} {q : Nat} (hd : decode cc pc = .ok (.astore 6, 2)) (hn : 6 < nL) (k : hb_W l own cc nL ret nm tb E z0 R σ0 N0 o h' N' kc ks (pc + 2) [a0, a1, a2, a3, a4, a5, hb_r q] st h N) : hb_W l own cc nL ret nm tb E z0 R σ0 N0 o h' N' kc ks pc [a0, a1, a2, a3, a4, a5] (hb_r q :: st) h N := by
  intro p e s m args below meth c X σ H locs lr hR hex hlo hL
  exact lv_astore X.1 X.2.1 hd hL.has hn rfl (fun lr2 hs => k p e s m args below meth c X σ H locs lr2 hR hex hlo (hL.put (v := hb_r q) rfl hn hs (hb_push ⟨rfl, rfl⟩)))
theorem aw_ild7 {a0 a1 a2 a3 a4 a5 a6 : hb_V} {z : Int} {tl : List hb_V} (hd : decode cc pc = .ok (.iload 7, 2)) (k : hb_W l own cc nL ret nm tb E z0 R σ0 N0 o h' N' kc ks (pc + 2) (a0 :: a1 :: a2 :: a3 :: a4 :: a5 :: a6 :: hb_i z :: tl) (hb_i z :: st) h N) : hb_W l own cc nL ret nm tb E z0 R σ0 N0 o h' N' kc ks pc (a0 :: a1 :: a2 :: a3 :: a4 :: a5 :: a6 :: hb_i z :: tl) st h N := by
  intro p e s m args below meth c X σ H locs lr hR hex hlo hL
  exact (lv_iload X.1 X.2.1 hd (hL.at (k := 7) rfl) (k p e s m args below meth c X σ H locs lr hR hex hlo hL))
theorem aw_ald7 {a0 a1 a2 a3 a4 a5 a6 : hb_V} {q : Nat} {tl : List hb_V} (hd : decode cc pc = .ok (.aload 7, 2)) (k : hb_W l own cc nL ret nm tb E z0 R σ0 N0 o h' N' kc ks (pc + 2) (a0 :: a1 :: a2 :: a3 :: a4 :: a5 :: a6 :: hb_r q :: tl) (hb_r q :: st) h N) : hb_W l own cc nL ret nm tb E z0 R σ0 N0 o h' N' kc ks pc (a0 :: a1 :: a2 :: a3 :: a4 :: a5 :: a6 :: hb_r q :: tl) st h N := by
  intro p e s m args below meth c X σ H locs lr hR hex hlo hL
  exact (lv_aload X.1 X.2.1 hd (hL.at (k := 7) rfl) (k p e s m args below meth c X σ H locs lr hR hex hlo hL))
theorem aw_iinc7 {a0 a1 a2 a3 a4 a5 a6 : hb_V} {z n : Int} {tl : List hb_V} (hd : decode cc pc = .ok (.iinc 7 n, 3)) (hn : 7 < nL) (k : hb_W l own cc nL ret nm tb E z0 R σ0 N0 o h' N' kc ks (pc + 3) (a0 :: a1 :: a2 :: a3 :: a4 :: a5 :: a6 :: hb_i (z + n) :: tl) st h N) : hb_W l own cc nL ret nm tb E z0 R σ0 N0 o h' N' kc ks pc (a0 :: a1 :: a2 :: a3 :: a4 :: a5 :: a6 :: hb_i z :: tl) st h N := by
  intro p e s m args below meth c X σ H locs lr hR hex hlo hL
  refine lv_iinc (k := 7) (x := Int32.ofInt z) X.1 X.2.1 hd hL.has ?_ rfl hn rfl (fun lr2 hs => ?_)
  · exact hb_lv_at (v := hb_i z) rfl
  · exact k p e s m args below meth c X σ H locs lr2 hR hex hlo (hL.put (v := hb_i (z + n)) rfl hn (by rw [show hb_cv σ (hb_i (z + n)) = .int (Int32.ofInt z + Int32.ofInt n) by rw [← Int32.ofInt_add]; rfl]; exact hs) (hb_set 7 rfl rfl))
theorem aw_ist7 {a0 a1 a2 a3 a4 a5 a6 : hb_V} {w : hb_V} {z : Int} {tl : List hb_V} (hd : decode cc pc = .ok (.istore 7, 2)) (hn : 7 < nL) (k : hb_W l own cc nL ret nm tb E z0 R σ0 N0 o h' N' kc ks (pc + 2) (a0 :: a1 :: a2 :: a3 :: a4 :: a5 :: a6 :: hb_i z :: tl) st h N) : hb_W l own cc nL ret nm tb E z0 R σ0 N0 o h' N' kc ks pc (a0 :: a1 :: a2 :: a3 :: a4 :: a5 :: a6 :: w :: tl) (hb_i z :: st) h N := by
  intro p e s m args below meth c X σ H locs lr hR hex hlo hL
  exact lv_istore X.1 X.2.1 hd hL.has hn rfl (fun lr2 hs => k p e s m args below meth c X σ H locs lr2 hR hex hlo (hL.put (v := hb_i z) rfl hn hs (hb_set 7 rfl rfl)))
theorem aw_ipu7 {a0 a1 a2 a3 a4 a5 a6 : hb_V} {z : Int} (hd : decode cc pc = .ok (.istore 7, 2)) (hn : 7 < nL) (k : hb_W l own cc nL ret nm tb E z0 R σ0 N0 o h' N' kc ks (pc + 2) [a0, a1, a2, a3, a4, a5, a6, hb_i z] st h N) : hb_W l own cc nL ret nm tb E z0 R σ0 N0 o h' N' kc ks pc [a0, a1, a2, a3, a4, a5, a6] (hb_i z :: st) h N := by
  intro p e s m args below meth c X σ H locs lr hR hex hlo hL
  exact lv_istore X.1 X.2.1 hd hL.has hn rfl (fun lr2 hs => k p e s m args below meth c X σ H locs lr2 hR hex hlo (hL.put (v := hb_i z) rfl hn hs (hb_push ⟨rfl, rfl⟩)))
theorem aw_ast7 {a0 a1 a2 a3 a4 a5 a6 : hb_V} {w : hb_V} {q : Nat} {tl : List hb_V} (hd : decode cc pc = .ok (.astore 7, 2)) (hn : 7 < nL) (k : hb_W l own cc nL ret nm tb E z0 R σ0 N0 o h' N' kc ks (pc + 2) (a0 :: a1 :: a2 :: a3 :: a4 :: a5 :: a6 :: hb_r q :: tl) st h N) : hb_W l own cc nL ret nm tb E z0 R σ0 N0 o h' N' kc ks pc (a0 :: a1 :: a2 :: a3 :: a4 :: a5 :: a6 :: w :: tl) (hb_r q :: st) h N := by
  intro p e s m args below meth c X σ H locs lr hR hex hlo hL
  exact lv_astore X.1 X.2.1 hd hL.has hn rfl (fun lr2 hs => k p e s m args below meth c X σ H locs lr2 hR hex hlo (hL.put (v := hb_r q) rfl hn hs (hb_set 7 rfl rfl)))
theorem aw_apu7 {a0 a1 a2 a3 a4 a5 a6 : hb_V} {q : Nat} (hd : decode cc pc = .ok (.astore 7, 2)) (hn : 7 < nL) (k : hb_W l own cc nL ret nm tb E z0 R σ0 N0 o h' N' kc ks (pc + 2) [a0, a1, a2, a3, a4, a5, a6, hb_r q] st h N) : hb_W l own cc nL ret nm tb E z0 R σ0 N0 o h' N' kc ks pc [a0, a1, a2, a3, a4, a5, a6] (hb_r q :: st) h N := by
  intro p e s m args below meth c X σ H locs lr hR hex hlo hL
  exact lv_astore X.1 X.2.1 hd hL.has hn rfl (fun lr2 hs => k p e s m args below meth c X σ H locs lr2 hR hex hlo (hL.put (v := hb_r q) rfl hn hs (hb_push ⟨rfl, rfl⟩)))
theorem aw_ild8 {a0 a1 a2 a3 a4 a5 a6 a7 : hb_V} {z : Int} {tl : List hb_V} (hd : decode cc pc = .ok (.iload 8, 2)) (k : hb_W l own cc nL ret nm tb E z0 R σ0 N0 o h' N' kc ks (pc + 2) (a0 :: a1 :: a2 :: a3 :: a4 :: a5 :: a6 :: a7 :: hb_i z :: tl) (hb_i z :: st) h N) : hb_W l own cc nL ret nm tb E z0 R σ0 N0 o h' N' kc ks pc (a0 :: a1 :: a2 :: a3 :: a4 :: a5 :: a6 :: a7 :: hb_i z :: tl) st h N := by
  intro p e s m args below meth c X σ H locs lr hR hex hlo hL
  exact (lv_iload X.1 X.2.1 hd (hL.at (k := 8) rfl) (k p e s m args below meth c X σ H locs lr hR hex hlo hL))
theorem aw_ald8 {a0 a1 a2 a3 a4 a5 a6 a7 : hb_V} {q : Nat} {tl : List hb_V} (hd : decode cc pc = .ok (.aload 8, 2)) (k : hb_W l own cc nL ret nm tb E z0 R σ0 N0 o h' N' kc ks (pc + 2) (a0 :: a1 :: a2 :: a3 :: a4 :: a5 :: a6 :: a7 :: hb_r q :: tl) (hb_r q :: st) h N) : hb_W l own cc nL ret nm tb E z0 R σ0 N0 o h' N' kc ks pc (a0 :: a1 :: a2 :: a3 :: a4 :: a5 :: a6 :: a7 :: hb_r q :: tl) st h N := by
  intro p e s m args below meth c X σ H locs lr hR hex hlo hL
  exact (lv_aload X.1 X.2.1 hd (hL.at (k := 8) rfl) (k p e s m args below meth c X σ H locs lr hR hex hlo hL))
theorem aw_iinc8 {a0 a1 a2 a3 a4 a5 a6 a7 : hb_V} {z n : Int} {tl : List hb_V} (hd : decode cc pc = .ok (.iinc 8 n, 3)) (hn : 8 < nL) (k : hb_W l own cc nL ret nm tb E z0 R σ0 N0 o h' N' kc ks (pc + 3) (a0 :: a1 :: a2 :: a3 :: a4 :: a5 :: a6 :: a7 :: hb_i (z + n) :: tl) st h N) : hb_W l own cc nL ret nm tb E z0 R σ0 N0 o h' N' kc ks pc (a0 :: a1 :: a2 :: a3 :: a4 :: a5 :: a6 :: a7 :: hb_i z :: tl) st h N := by
  intro p e s m args below meth c X σ H locs lr hR hex hlo hL
  refine lv_iinc (k := 8) (x := Int32.ofInt z) X.1 X.2.1 hd hL.has ?_ rfl hn rfl (fun lr2 hs => ?_)
  · exact hb_lv_at (v := hb_i z) rfl
  · exact k p e s m args below meth c X σ H locs lr2 hR hex hlo (hL.put (v := hb_i (z + n)) rfl hn (by rw [show hb_cv σ (hb_i (z + n)) = .int (Int32.ofInt z + Int32.ofInt n) by rw [← Int32.ofInt_add]; rfl]; exact hs) (hb_set 8 rfl rfl))
theorem aw_ist8 {a0 a1 a2 a3 a4 a5 a6 a7 : hb_V} {w : hb_V} {z : Int} {tl : List hb_V} (hd : decode cc pc = .ok (.istore 8, 2)) (hn : 8 < nL) (k : hb_W l own cc nL ret nm tb E z0 R σ0 N0 o h' N' kc ks (pc + 2) (a0 :: a1 :: a2 :: a3 :: a4 :: a5 :: a6 :: a7 :: hb_i z :: tl) st h N) : hb_W l own cc nL ret nm tb E z0 R σ0 N0 o h' N' kc ks pc (a0 :: a1 :: a2 :: a3 :: a4 :: a5 :: a6 :: a7 :: w :: tl) (hb_i z :: st) h N := by
  intro p e s m args below meth c X σ H locs lr hR hex hlo hL
  exact lv_istore X.1 X.2.1 hd hL.has hn rfl (fun lr2 hs => k p e s m args below meth c X σ H locs lr2 hR hex hlo (hL.put (v := hb_i z) rfl hn hs (hb_set 8 rfl rfl)))
theorem aw_ipu8 {a0 a1 a2 a3 a4 a5 a6 a7 : hb_V} {z : Int} (hd : decode cc pc = .ok (.istore 8, 2)) (hn : 8 < nL) (k : hb_W l own cc nL ret nm tb E z0 R σ0 N0 o h' N' kc ks (pc + 2) [a0, a1, a2, a3, a4, a5, a6, a7, hb_i z] st h N) : hb_W l own cc nL ret nm tb E z0 R σ0 N0 o h' N' kc ks pc [a0, a1, a2, a3, a4, a5, a6, a7] (hb_i z :: st) h N := by
  intro p e s m args below meth c X σ H locs lr hR hex hlo hL
  exact lv_istore X.1 X.2.1 hd hL.has hn rfl (fun lr2 hs => k p e s m args below meth c X σ H locs lr2 hR hex hlo (hL.put (v := hb_i z) rfl hn hs (hb_push ⟨rfl, rfl⟩)))
theorem aw_ast8 {a0 a1 a2 a3 a4 a5 a6 a7 : hb_V} {w : hb_V} {q : Nat} {tl : List hb_V} (hd : decode cc pc = .ok (.astore 8, 2)) (hn : 8 < nL) (k : hb_W l own cc nL ret nm tb E z0 R σ0 N0 o h' N' kc ks (pc + 2) (a0 :: a1 :: a2 :: a3 :: a4 :: a5 :: a6 :: a7 :: hb_r q :: tl) st h N) : hb_W l own cc nL ret nm tb E z0 R σ0 N0 o h' N' kc ks pc (a0 :: a1 :: a2 :: a3 :: a4 :: a5 :: a6 :: a7 :: w :: tl) (hb_r q :: st) h N := by
  intro p e s m args below meth c X σ H locs lr hR hex hlo hL
  exact lv_astore X.1 X.2.1 hd hL.has hn rfl (fun lr2 hs => k p e s m args below meth c X σ H locs lr2 hR hex hlo (hL.put (v := hb_r q) rfl hn hs (hb_set 8 rfl rfl)))
theorem aw_apu8 {a0 a1 a2 a3 a4 a5 a6 a7 : hb_V} {q : Nat} (hd : decode cc pc = .ok (.astore 8, 2)) (hn : 8 < nL) (k : hb_W l own cc nL ret nm tb E z0 R σ0 N0 o h' N' kc ks (pc + 2) [a0, a1, a2, a3, a4, a5, a6, a7, hb_r q] st h N) : hb_W l own cc nL ret nm tb E z0 R σ0 N0 o h' N' kc ks pc [a0, a1, a2, a3, a4, a5, a6, a7] (hb_r q :: st) h N := by
  intro p e s m args below meth c X σ H locs lr hR hex hlo hL
  exact lv_astore X.1 X.2.1 hd hL.has hn rfl (fun lr2 hs => k p e s m args below meth c X σ H locs lr2 hR hex hlo (hL.put (v := hb_r q) rfl hn hs (hb_push ⟨rfl, rfl⟩)))
theorem aw_ild9 {a0 a1 a2 a3 a4 a5 a6 a7 a8 : hb_V} {z : Int} {tl : List hb_V} (hd : decode cc pc = .ok (.iload 9, 2)) (k : hb_W l own cc nL ret nm tb E z0 R σ0 N0 o h' N' kc ks (pc + 2) (a0 :: a1 :: a2 :: a3 :: a4 :: a5 :: a6 :: a7 :: a8 :: hb_i z :: tl) (hb_i z :: st) h N) : hb_W l own cc nL ret nm tb E z0 R σ0 N0 o h' N' kc ks pc (a0 :: a1 :: a2 :: a3 :: a4 :: a5 :: a6 :: a7 :: a8 :: hb_i z :: tl) st h N := by
  intro p e s m args below meth c X σ H locs lr hR hex hlo hL
  exact (lv_iload X.1 X.2.1 hd (hL.at (k := 9) rfl) (k p e s m args below meth c X σ H locs lr hR hex hlo hL))
theorem aw_ald9 {a0 a1 a2 a3 a4 a5 a6 a7 a8 : hb_V} {q : Nat} {tl : List hb_V} (hd : decode cc pc = .ok (.aload 9, 2)) (k : hb_W l own cc nL ret nm tb E z0 R σ0 N0 o h' N' kc ks (pc + 2) (a0 :: a1 :: a2 :: a3 :: a4 :: a5 :: a6 :: a7 :: a8 :: hb_r q :: tl) (hb_r q :: st) h N) : hb_W l own cc nL ret nm tb E z0 R σ0 N0 o h' N' kc ks pc (a0 :: a1 :: a2 :: a3 :: a4 :: a5 :: a6 :: a7 :: a8 :: hb_r q :: tl) st h N := by
  intro p e s m args below meth c X σ H locs lr hR hex hlo hL
  exact (lv_aload X.1 X.2.1 hd (hL.at (k := 9) rfl) (k p e s m args below meth c X σ H locs lr hR hex hlo hL))
theorem aw_iinc9 {a0 a1 a2 a3 a4 a5 a6 a7 a8 : hb_V} {z n : Int} {tl : List hb_V} (hd : decode cc pc = .ok (.iinc 9 n, 3)) (hn : 9 < nL) (k : hb_W l own cc nL ret nm tb E z0 R σ0 N0 o h' N' kc ks (pc + 3) (a0 :: a1 :: a2 :: a3 :: a4 :: a5 :: a6 :: a7 :: a8 :: hb_i (z + n) :: tl) st h N) : hb_W l own cc nL ret nm tb E z0 R σ0 N0 o h' N' kc ks pc (a0 :: a1 :: a2 :: a3 :: a4 :: a5 :: a6 :: a7 :: a8 :: hb_i z :: tl) st h N := by
  intro p e s m args below meth c X σ H locs lr hR hex hlo hL
  refine lv_iinc (k := 9) (x := Int32.ofInt z) X.1 X.2.1 hd hL.has ?_ rfl hn rfl (fun lr2 hs => ?_)
  · exact hb_lv_at (v := hb_i z) rfl
  · exact k p e s m args below meth c X σ H locs lr2 hR hex hlo (hL.put (v := hb_i (z + n)) rfl hn (by rw [show hb_cv σ (hb_i (z + n)) = .int (Int32.ofInt z + Int32.ofInt n) by rw [← Int32.ofInt_add]; rfl]; exact hs) (hb_set 9 rfl rfl))
theorem aw_ist9 {a0 a1 a2 a3 a4 a5 a6 a7 a8 : hb_V} {w : hb_V} {z : Int} {tl : List hb_V} (hd : decode cc pc = .ok (.istore 9, 2)) (hn : 9 < nL) (k : hb_W l own cc nL ret nm tb E z0 R σ0 N0 o h' N' kc ks (pc + 2) (a0 :: a1 :: a2 :: a3 :: a4 :: a5 :: a6 :: a7 :: a8 :: hb_i z :: tl) st h N) : hb_W l own cc nL ret nm tb E z0 R σ0 N0 o h' N' kc ks pc (a0 :: a1 :: a2 :: a3 :: a4 :: a5 :: a6 :: a7 :: a8 :: w :: tl) (hb_i z :: st) h N := by
  intro p e s m args below meth c X σ H locs lr hR hex hlo hL
  exact lv_istore X.1 X.2.1 hd hL.has hn rfl (fun lr2 hs => k p e s m args below meth c X σ H locs lr2 hR hex hlo (hL.put (v := hb_i z) rfl hn hs (hb_set 9 rfl rfl)))
theorem aw_ipu9 {a0 a1 a2 a3 a4 a5 a6 a7 a8 : hb_V} {z : Int} (hd : decode cc pc = .ok (.istore 9, 2)) (hn : 9 < nL) (k : hb_W l own cc nL ret nm tb E z0 R σ0 N0 o h' N' kc ks (pc + 2) [a0, a1, a2, a3, a4, a5, a6, a7, a8, hb_i z] st h N) : hb_W l own cc nL ret nm tb E z0 R σ0 N0 o h' N' kc ks pc [a0, a1, a2, a3, a4, a5, a6, a7, a8] (hb_i z :: st) h N := by
  intro p e s m args below meth c X σ H locs lr hR hex hlo hL
  exact lv_istore X.1 X.2.1 hd hL.has hn rfl (fun lr2 hs => k p e s m args below meth c X σ H locs lr2 hR hex hlo (hL.put (v := hb_i z) rfl hn hs (hb_push ⟨rfl, rfl⟩)))
theorem aw_ast9 {a0 a1 a2 a3 a4 a5 a6 a7 a8 : hb_V} {w : hb_V} {q : Nat} {tl : List hb_V} (hd : decode cc pc = .ok (.astore 9, 2)) (hn : 9 < nL) (k : hb_W l own cc nL ret nm tb E z0 R σ0 N0 o h' N' kc ks (pc + 2) (a0 :: a1 :: a2 :: a3 :: a4 :: a5 :: a6 :: a7 :: a8 :: hb_r q :: tl) st h N) : hb_W l own cc nL ret nm tb E z0 R σ0 N0 o h' N' kc ks pc (a0 :: a1 :: a2 :: a3 :: a4 :: a5 :: a6 :: a7 :: a8 :: w :: tl) (hb_r q :: st) h N := by
  intro p e s m args below meth c X σ H locs lr hR hex hlo hL
  exact lv_astore X.1 X.2.1 hd hL.has hn rfl (fun lr2 hs => k p e s m args below meth c X σ H locs lr2 hR hex hlo (hL.put (v := hb_r q) rfl hn hs (hb_set 9 rfl rfl)))
theorem aw_apu9 {a0 a1 a2 a3 a4 a5 a6 a7 a8 : hb_V} {q : Nat} (hd : decode cc pc = .ok (.astore 9, 2)) (hn : 9 < nL) (k : hb_W l own cc nL ret nm tb E z0 R σ0 N0 o h' N' kc ks (pc + 2) [a0, a1, a2, a3, a4, a5, a6, a7, a8, hb_r q] st h N) : hb_W l own cc nL ret nm tb E z0 R σ0 N0 o h' N' kc ks pc [a0, a1, a2, a3, a4, a5, a6, a7, a8] (hb_r q :: st) h N := by
  intro p e s m args below meth c X σ H locs lr hR hex hlo hL
  exact lv_astore X.1 X.2.1 hd hL.has hn rfl (fun lr2 hs => k p e s m args below meth c X σ H locs lr2 hR hex hlo (hL.put (v := hb_r q) rfl hn hs (hb_push ⟨rfl, rfl⟩)))
theorem aw_ild10 {a0 a1 a2 a3 a4 a5 a6 a7 a8 a9 : hb_V} {z : Int} {tl : List hb_V} (hd : decode cc pc = .ok (.iload 10, 2)) (k : hb_W l own cc nL ret nm tb E z0 R σ0 N0 o h' N' kc ks (pc + 2) (a0 :: a1 :: a2 :: a3 :: a4 :: a5 :: a6 :: a7 :: a8 :: a9 :: hb_i z :: tl) (hb_i z :: st) h N) : hb_W l own cc nL ret nm tb E z0 R σ0 N0 o h' N' kc ks pc (a0 :: a1 :: a2 :: a3 :: a4 :: a5 :: a6 :: a7 :: a8 :: a9 :: hb_i z :: tl) st h N := by
  intro p e s m args below meth c X σ H locs lr hR hex hlo hL
  exact (lv_iload X.1 X.2.1 hd (hL.at (k := 10) rfl) (k p e s m args below meth c X σ H locs lr hR hex hlo hL))
theorem aw_ald10 {a0 a1 a2 a3 a4 a5 a6 a7 a8 a9 : hb_V} {q : Nat} {tl : List hb_V} (hd : decode cc pc = .ok (.aload 10, 2)) (k : hb_W l own cc nL ret nm tb E z0 R σ0 N0 o h' N' kc ks (pc + 2) (a0 :: a1 :: a2 :: a3 :: a4 :: a5 :: a6 :: a7 :: a8 :: a9 :: hb_r q :: tl) (hb_r q :: st) h N) : hb_W l own cc nL ret nm tb E z0 R σ0 N0 o h' N' kc ks pc (a0 :: a1 :: a2 :: a3 :: a4 :: a5 :: a6 :: a7 :: a8 :: a9 :: hb_r q :: tl) st h N := by
  intro p e s m args below meth c X σ H locs lr hR hex hlo hL
  exact (lv_aload X.1 X.2.1 hd (hL.at (k := 10) rfl) (k p e s m args below meth c X σ H locs lr hR hex hlo hL))
theorem aw_iinc10 {a0 a1 a2 a3 a4 a5 a6 a7 a8 a9 : hb_V} {z n : Int} {tl : List hb_V} (hd : decode cc pc = .ok (.iinc 10 n, 3)) (hn : 10 < nL) (k : hb_W l own cc nL ret nm tb E z0 R σ0 N0 o h' N' kc ks (pc + 3) (a0 :: a1 :: a2 :: a3 :: a4 :: a5 :: a6 :: a7 :: a8 :: a9 :: hb_i (z + n) :: tl) st h N) : hb_W l own cc nL ret nm tb E z0 R σ0 N0 o h' N' kc ks pc (a0 :: a1 :: a2 :: a3 :: a4 :: a5 :: a6 :: a7 :: a8 :: a9 :: hb_i z :: tl) st h N := by
  intro p e s m args below meth c X σ H locs lr hR hex hlo hL
  refine lv_iinc (k := 10) (x := Int32.ofInt z) X.1 X.2.1 hd hL.has ?_ rfl hn rfl (fun lr2 hs => ?_)
  · exact hb_lv_at (v := hb_i z) rfl
  · exact k p e s m args below meth c X σ H locs lr2 hR hex hlo (hL.put (v := hb_i (z + n)) rfl hn (by rw [show hb_cv σ (hb_i (z + n)) = .int (Int32.ofInt z + Int32.ofInt n) by rw [← Int32.ofInt_add]; rfl]; exact hs) (hb_set 10 rfl rfl))
theorem aw_ist10 {a0 a1 a2 a3 a4 a5 a6 a7 a8 a9 : hb_V} {w : hb_V} {z : Int} {tl : List hb_V} (hd : decode cc pc = .ok (.istore 10, 2)) (hn : 10 < nL) (k : hb_W l own cc nL ret nm tb E z0 R σ0 N0 o h' N' kc ks (pc + 2) (a0 :: a1 :: a2 :: a3 :: a4 :: a5 :: a6 :: a7 :: a8 :: a9 :: hb_i z :: tl) st h N) : hb_W l own cc nL ret nm tb E z0 R σ0 N0 o h' N' kc ks pc (a0 :: a1 :: a2 :: a3 :: a4 :: a5 :: a6 :: a7 :: a8 :: a9 :: w :: tl) (hb_i z :: st) h N := by
  intro p e s m args below meth c X σ H locs lr hR hex hlo hL
  exact lv_istore X.1 X.2.1 hd hL.has hn rfl (fun lr2 hs => k p e s m args below meth c X σ H locs lr2 hR hex hlo (hL.put (v := hb_i z) rfl hn hs (hb_set 10 rfl rfl)))
theorem aw_ipu10 {a0 a1 a2 a3 a4 a5 a6 a7 a8 a9 : hb_V} {z : Int} (hd : decode cc pc = .ok (.istore 10, 2)) (hn : 10 < nL) (k : hb_W l own cc nL ret nm tb E z0 R σ0 N0 o h' N' kc ks (pc + 2) [a0, a1, a2, a3, a4, a5, a6, a7, a8, a9, hb_i z] st h N) : hb_W l own cc nL ret nm tb E z0 R σ0 N0 o h' N' kc ks pc [a0, a1, a2, a3, a4, a5, a6, a7, a8, a9] (hb_i z :: st) h N := by
  intro p e s m args below meth c X σ H locs lr hR hex hlo hL
  exact lv_istore X.1 X.2.1 hd hL.has hn rfl (fun lr2 hs => k p e s m args below meth c X σ H locs lr2 hR hex hlo (hL.put (v := hb_i z) rfl hn hs (hb_push ⟨rfl, rfl⟩)))
theorem aw_ast10 {a0 a1 a2 a3 a4 a5 a6 a7 a8 a9 : hb_V} {w : hb_V} {q : Nat} {tl : List hb_V} (hd : decode cc pc = .ok (.astore 10, 2)) (hn : 10 < nL) (k : hb_W l own cc nL ret nm tb E z0 R σ0 N0 o h' N' kc ks (pc + 2) (a0 :: a1 :: a2 :: a3 :: a4 :: a5 :: a6 :: a7 :: a8 :: a9 :: hb_r q :: tl) st h N) : hb_W l own cc nL ret nm tb E z0 R σ0 N0 o h' N' kc ks pc (a0 :: a1 :: a2 :: a3 :: a4 :: a5 :: a6 :: a7 :: a8 :: a9 :: w :: tl) (hb_r q :: st) h N := by
  intro p e s m args below meth c X σ H locs lr hR hex hlo hL
  exact lv_astore X.1 X.2.1 hd hL.has hn rfl (fun lr2 hs => k p e s m args below meth c X σ H locs lr2 hR hex hlo (hL.put (v := hb_r q) rfl hn hs (hb_set 10 rfl rfl)))
theorem aw_apu10 {a0 a1 a2 a3 a4 a5 a6 a7 a8 a9 : hb_V} {q : Nat} (hd : decode cc pc = .ok (.astore 10, 2)) (hn : 10 < nL) (k : hb_W l own cc nL ret nm tb E z0 R σ0 N0 o h' N' kc ks (pc + 2) [a0, a1, a2, a3, a4, a5, a6, a7, a8, a9, hb_r q] st h N) : hb_W l own cc nL ret nm tb E z0 R σ0 N0 o h' N' kc ks pc [a0, a1, a2, a3, a4, a5, a6, a7, a8, a9] (hb_r q :: st) h N := by
  intro p e s m args below meth c X σ H locs lr hR hex hlo hL
  exact lv_astore X.1 X.2.1 hd hL.has hn rfl (fun lr2 hs => k p e s m args below meth c X σ H locs lr2 hR hex hlo (hL.put (v := hb_r q) rfl hn hs (hb_push ⟨rfl, rfl⟩)))
theorem aw_ild11 {a0 a1 a2 a3 a4 a5 a6 a7 a8 a9 a10 : hb_V} {z : Int} {tl : List hb_V} (hd : decode cc pc = .ok (.iload 11, 2)) (k : hb_W l own cc nL ret nm tb E z0 R σ0 N0 o h' N' kc ks (pc + 2) (a0 :: a1 :: a2 :: a3 :: a4 :: a5 :: a6 :: a7 :: a8 :: a9 :: a10 :: hb_i z :: tl) (hb_i z :: st) h N) : hb_W l own cc nL ret nm tb E z0 R σ0 N0 o h' N' kc ks pc (a0 :: a1 :: a2 :: a3 :: a4 :: a5 :: a6 :: a7 :: a8 :: a9 :: a10 :: hb_i z :: tl) st h N := by
  intro p e s m args below meth c X σ H locs lr hR hex hlo hL
  exact (lv_iload X.1 X.2.1 hd (hL.at (k := 11) rfl) (k p e s m args below meth c X σ H locs lr hR hex hlo hL))
theorem aw_ald11 {a0 a1 a2 a3 a4 a5 a6 a7 a8 a9 a10 : hb_V} {q : Nat} {tl : List hb_V} (hd : decode cc pc = .ok (.aload 11, 2)) (k : hb_W l own cc nL ret nm tb E z0 R σ0 N0 o h' N' kc ks (pc + 2) (a0 :: a1 :: a2 :: a3 :: a4 :: a5 :: a6 :: a7 :: a8 :: a9 :: a10 :: hb_r q :: tl) (hb_r q :: st) h N) : hb_W l own cc nL ret nm tb E z0 R σ0 N0 o h' N' kc ks pc (a0 :: a1 :: a2 :: a3 :: a4 :: a5 :: a6 :: a7 :: a8 :: a9 :: a10 :: hb_r q :: tl) st h N := by
  intro p e s m args below meth c X σ H locs lr hR hex hlo hL
  exact (lv_aload X.1 X.2.1 hd (hL.at (k := 11) rfl) (k p e s m args below meth c X σ H locs lr hR hex hlo hL))
theorem aw_iinc11 {a0 a1 a2 a3 a4 a5 a6 a7 a8 a9 a10 : hb_V} {z n : Int} {tl : List hb_V} (hd : decode cc pc = .ok (.iinc 11 n, 3)) (hn : 11 < nL) (k : hb_W l own cc nL ret nm tb E z0 R σ0 N0 o h' N' kc ks (pc + 3) (a0 :: a1 :: a2 :: a3 :: a4 :: a5 :: a6 :: a7 :: a8 :: a9 :: a10 :: hb_i (z + n) :: tl) st h N) : hb_W l own cc nL ret nm tb E z0 R σ0 N0 o h' N' kc ks pc (a0 :: a1 :: a2 :: a3 :: a4 :: a5 :: a6 :: a7 :: a8 :: a9 :: a10 :: hb_i z :: tl) st h N := by
  intro p e s m args below meth c X σ H locs lr hR hex hlo hL
  refine lv_iinc (k := 11) (x := Int32.ofInt z) X.1 X.2.1 hd hL.has ?_ rfl hn rfl (fun lr2 hs => ?_)
  · exact hb_lv_at (v := hb_i z) rfl
  · exact k p e s m args below meth c X σ H locs lr2 hR hex hlo (hL.put (v := hb_i (z + n)) rfl hn (by rw [show hb_cv σ (hb_i (z + n)) = .int (Int32.ofInt z + Int32.ofInt n) by rw [← Int32.ofInt_add]; rfl]; exact hs) (hb_set 11 rfl rfl))
theorem aw_ist11 {a0 a1 a2 a3 a4 a5 a6 a7 a8 a9 a10 : hb_V} {w : hb_V} {z : Int} {tl : List hb_V} (hd : decode cc pc = .ok (.istore 11, 2)) (hn : 11 < nL) (k : hb_W l own cc nL ret nm tb E z0 R σ0 N0 o h' N' kc ks (pc + 2) (a0 :: a1 :: a2 :: a3 :: a4 :: a5 :: a6 :: a7 :: a8 :: a9 :: a10 :: hb_i z :: tl) st h N) : hb_W l own cc nL ret nm tb E z0 R σ0 N0 o h' N' kc ks pc (a0 :: a1 :: a2 :: a3 :: a4 :: a5 :: a6 :: a7 :: a8 :: a9 :: a10 :: w :: tl) (hb_i z :: st) h N := by
  intro p e s m args below meth c X σ H locs lr hR hex hlo hL
  exact lv_istore X.1 X.2.1 hd hL.has hn rfl (fun lr2 hs => k p e s m args below meth c X σ H locs lr2 hR hex hlo (hL.put (v := hb_i z) rfl hn hs (hb_set 11 rfl rfl)))
theorem aw_ipu11 {a0 a1 a2 a3 a4 a5 a6 a7 a8 a9 a10 : hb_V} {z : Int} (hd : decode cc pc = .ok (.istore 11, 2)) (hn : 11 < nL) (k : hb_W l own cc nL ret nm tb E z0 R σ0 N0 o h' N' kc ks (pc + 2) [a0, a1, a2, a3, a4, a5, a6, a7, a8, a9, a10, hb_i z] st h N) : hb_W l own cc nL ret nm tb E z0 R σ0 N0 o h' N' kc ks pc [a0, a1, a2, a3, a4, a5, a6, a7, a8, a9, a10] (hb_i z :: st) h N := by
  intro p e s m args below meth c X σ H locs lr hR hex hlo hL
  exact lv_istore X.1 X.2.1 hd hL.has hn rfl (fun lr2 hs => k p e s m args below meth c X σ H locs lr2 hR hex hlo (hL.put (v := hb_i z) rfl hn hs (hb_push ⟨rfl, rfl⟩)))
theorem aw_ast11 {a0 a1 a2 a3 a4 a5 a6 a7 a8 a9 a10 : hb_V} {w : hb_V} {q : Nat} {tl : List hb_V} (hd : decode cc pc = .ok (.astore 11, 2)) (hn : 11 < nL) (k : hb_W l own cc nL ret nm tb E z0 R σ0 N0 o h' N' kc ks (pc + 2) (a0 :: a1 :: a2 :: a3 :: a4 :: a5 :: a6 :: a7 :: a8 :: a9 :: a10 :: hb_r q :: tl) st h N) : hb_W l own cc nL ret nm tb E z0 R σ0 N0 o h' N' kc ks pc (a0 :: a1 :: a2 :: a3 :: a4 :: a5 :: a6 :: a7 :: a8 :: a9 :: a10 :: w :: tl) (hb_r q :: st) h N := by
  intro p e s m args below meth c X σ H locs lr hR hex hlo hL
  exact lv_astore X.1 X.2.1 hd hL.has hn rfl (fun lr2 hs => k p e s m args below meth c X σ H locs lr2 hR hex hlo (hL.put (v := hb_r q) rfl hn hs (hb_set 11 rfl rfl)))
theorem aw_apu11 {a0 a1 a2 a3 a4 a5 a6 a7 a8 a9 a10 : hb_V} {q : Nat} (hd : decode cc pc = .ok (.astore 11, 2)) (hn : 11 < nL) (k : hb_W l own cc nL ret nm tb E z0 R σ0 N0 o h' N' kc ks (pc + 2) [a0, a1, a2, a3, a4, a5, a6, a7, a8, a9, a10, hb_r q] st h N) : hb_W l own cc nL ret nm tb E z0 R σ0 N0 o h' N' kc ks pc [a0, a1, a2, a3, a4, a5, a6, a7, a8, a9, a10] (hb_r q :: st) h N := by
  intro p e s m args below meth c X σ H locs lr hR hex hlo hL
  exact lv_astore X.1 X.2.1 hd hL.has hn rfl (fun lr2 hs => k p e s m args below meth c X σ H locs lr2 hR hex hlo (hL.put (v := hb_r q) rfl hn hs (hb_push ⟨rfl, rfl⟩)))
theorem aw_ild12 {a0 a1 a2 a3 a4 a5 a6 a7 a8 a9 a10 a11 : hb_V} {z : Int} {tl : List hb_V} (hd : decode cc pc = .ok (.iload 12, 2)) (k : hb_W l own cc nL ret nm tb E z0 R σ0 N0 o h' N' kc ks (pc + 2) (a0 :: a1 :: a2 :: a3 :: a4 :: a5 :: a6 :: a7 :: a8 :: a9 :: a10 :: a11 :: hb_i z :: tl) (hb_i z :: st) h N) : hb_W l own cc nL ret nm tb E z0 R σ0 N0 o h' N' kc ks pc (a0 :: a1 :: a2 :: a3 :: a4 :: a5 :: a6 :: a7 :: a8 :: a9 :: a10 :: a11 :: hb_i z :: tl) st h N := by
  intro p e s m args below meth c X σ H locs lr hR hex hlo hL
  exact (lv_iload X.1 X.2.1 hd (hL.at (k := 12) rfl) (k p e s m args below meth c X σ H locs lr hR hex hlo hL))
theorem aw_ald12 {a0 a1 a2 a3 a4 a5 a6 a7 a8 a9 a10 a11 : hb_V} {q : Nat} {tl : List hb_V} (hd : decode cc pc = .ok (.aload 12, 2)) (k : hb_W l own cc nL ret nm tb E z0 R σ0 N0 o h' N' kc ks (pc + 2) (a0 :: a1 :: a2 :: a3 :: a4 :: a5 :: a6 :: a7 :: a8 :: a9 :: a10 :: a11 :: hb_r q :: tl) (hb_r q :: st) h N) : hb_W l own cc nL ret nm tb E z0 R σ0 N0 o h' N' kc ks pc (a0 :: a1 :: a2 :: a3 :: a4 :: a5 :: a6 :: a7 :: a8 :: a9 :: a10 :: a11 :: hb_r q :: tl) st h N := by
  intro p e s m args below meth c X σ H locs lr hR hex hlo hL
  exact (lv_aload X.1 X.2.1 hd (hL.at (k := 12) rfl) (k p e s m args below meth c X σ H locs lr hR hex hlo hL))
theorem aw_iinc12 {a0 a1 a2 a3 a4 a5 a6 a7 a8 a9 a10 a11 : hb_V} {z n : Int} {tl : List hb_V} (hd : decode cc pc = .ok (.iinc 12 n, 3)) (hn : 12 < nL) (k : hb_W l own cc nL ret nm tb E z0 R σ0 N0 o h' N' kc ks (pc + 3) (a0 :: a1 :: a2 :: a3 :: a4 :: a5 :: a6 :: a7 :: a8 :: a9 :: a10 :: a11 :: hb_i (z + n) :: tl) st h N) : hb_W l own cc nL ret nm tb E z0 R σ0 N0 o h' N' kc ks pc (a0 :: a1 :: a2 :: a3 :: a4 :: a5 :: a6 :: a7 :: a8 :: a9 :: a10 :: a11 :: hb_i z :: tl) st h N := by
  intro p e s m args below meth c X σ H locs lr hR hex hlo hL
  refine lv_iinc (k := 12) (x := Int32.ofInt z) X.1 X.2.1 hd hL.has ?_ rfl hn rfl (fun lr2 hs => ?_)
  · exact hb_lv_at (v := hb_i z) rfl
  · exact k p e s m args below meth c X σ H locs lr2 hR hex hlo (hL.put (v := hb_i (z + n)) rfl hn (by rw [show hb_cv σ (hb_i (z + n)) = .int (Int32.ofInt z + Int32.ofInt n) by rw [← Int32.ofInt_add]; rfl]; exact hs) (hb_set 12 rfl rfl))
theorem aw_ist12 {a0 a1 a2 a3 a4 a5 a6 a7 a8 a9 a10 a11 : hb_V} {w : hb_V} {z : Int} {tl : List hb_V} (hd : decode cc pc = .ok (.istore 12, 2)) (hn : 12 < nL) (k : hb_W l own cc nL ret nm tb E z0 R σ0 N0 o h' N' kc ks (pc + 2) (a0 :: a1 :: a2 :: a3 :: a4 :: a5 :: a6 :: a7 :: a8 :: a9 :: a10 :: a11 :: hb_i z :: tl) st h N) : hb_W l own cc nL ret nm tb E z0 R σ0 N0 o h' N' kc ks pc (a0 :: a1 :: a2 :: a3 :: a4 :: a5 :: a6 :: a7 :: a8 :: a9 :: a10 :: a11 :: w :: tl) (hb_i z :: st) h N := by
  intro p e s m args below meth c X σ H locs lr hR hex hlo hL
  exact lv_istore X.1 X.2.1 hd hL.has hn rfl (fun lr2 hs => k p e s m args below meth c X σ H locs lr2 hR hex hlo (hL.put (v := hb_i z) rfl hn hs (hb_set 12 rfl rfl)))
theorem aw_ipu12 {a0 a1 a2 a3 a4 a5 a6 a7 a8 a9 a10 a11 : hb_V} {z : Int} (hd : decode cc pc = .ok (.istore 12, 2)) (hn : 12 < nL) (k : hb_W l own cc nL ret nm tb E z0 R σ0 N0 o h' N' kc ks (pc + 2) [a0, a1, a2, a3, a4, a5, a6, a7, a8, a9, a10, a11, hb_i z] st h N) : hb_W l own cc nL ret nm tb E z0 R σ0 N0 o h' N' kc ks pc [a0, a1, a2, a3, a4, a5, a6, a7, a8, a9, a10, a11] (hb_i z :: st) h N := by
  intro p e s m args below meth c X σ H locs lr hR hex hlo hL
  exact lv_istore X.1 X.2.1 hd hL.has hn rfl (fun lr2 hs => k p e s m args below meth c X σ H locs lr2 hR hex hlo (hL.put (v := hb_i z) rfl hn hs (hb_push ⟨rfl, rfl⟩)))
theorem aw_ast12 {a0 a1 a2 a3 a4 a5 a6 a7 a8 a9 a10 a11 : hb_V} {w : hb_V} {q : Nat} {tl : List hb_V} (hd : decode cc pc = .ok (.astore 12, 2)) (hn : 12 < nL) (k : hb_W l own cc nL ret nm tb E z0 R σ0 N0 o h' N' kc ks (pc + 2) (a0 :: a1 :: a2 :: a3 :: a4 :: a5 :: a6 :: a7 :: a8 :: a9 :: a10 :: a11 :: hb_r q :: tl) st h N) : hb_W l own cc nL ret nm tb E z0 R σ0 N0 o h' N' kc ks pc (a0 :: a1 :: a2 :: a3 :: a4 :: a5 :: a6 :: a7 :: a8 :: a9 :: a10 :: a11 :: w :: tl) (hb_r q :: st) h N := by
  intro p e s m args below meth c X σ H locs lr hR hex hlo hL
  exact lv_astore X.1 X.2.1 hd hL.has hn rfl (fun lr2 hs => k p e s m args below meth c X σ H locs lr2 hR hex hlo (hL.put (v := hb_r q) rfl hn hs (hb_set 12 rfl rfl)))
theorem aw_apu12 {a0 a1 a2 a3 a4 a5 a6 a7 a8 a9 a10 a11 : hb_V} {q : Nat} (hd : decode cc pc = .ok (.astore 12, 2)) (hn : 12 < nL) (k : hb_W l own cc nL ret nm tb E z0 R σ0 N0 o h' N' kc ks (pc + 2) [a0, a1, a2, a3, a4, a5, a6, a7, a8, a9, a10, a11, hb_r q] st h N) : hb_W l own cc nL ret nm tb E z0 R σ0 N0 o h' N' kc ks pc [a0, a1, a2, a3, a4, a5, a6, a7, a8, a9, a10, a11] (hb_r q :: st) h N := by
  intro p e s m args below meth c X σ H locs lr hR hex hlo hL
  exact lv_astore X.1 X.2.1 hd hL.has hn rfl (fun lr2 hs => k p e s m args below meth c X σ H locs lr2 hR hex hlo (hL.put (v := hb_r q) rfl hn hs (hb_push ⟨rfl, rfl⟩)))
theorem aw_ild13 {a0 a1 a2 a3 a4 a5 a6 a7 a8 a9 a10 a11 a12 : hb_V} {z : Int} {tl : List hb_V} (hd : decode cc pc = .ok (.iload 13, 2)) (k : hb_W l own cc nL ret nm tb E z0 R σ0 N0 o h' N' kc ks (pc + 2) (a0 :: a1 :: a2 :: a3 :: a4 :: a5 :: a6 :: a7 :: a8 :: a9 :: a10 :: a11 :: a12 :: hb_i z :: tl) (hb_i z :: st) h N) : hb_W l own cc nL ret nm tb E z0 R σ0 N0 o h' N' kc ks pc (a0 :: a1 :: a2 :: a3 :: a4 :: a5 :: a6 :: a7 :: a8 :: a9 :: a10 :: a11 :: a12 :: hb_i z :: tl) st h N := by
  intro p e s m args below meth c X σ H locs lr hR hex hlo hL
  exact (lv_iload X.1 X.2.1 hd (hL.at (k := 13) rfl) (k p e s m args below meth c X σ H locs lr hR hex hlo hL))
theorem aw_ald13 {a0 a1 a2 a3 a4 a5 a6 a7 a8 a9 a10 a11 a12 : hb_V} {q : Nat} {tl : List hb_V} (hd : decode cc pc = .ok (.aload 13, 2)) (k : hb_W l own cc nL ret nm tb E z0 R σ0 N0 o h' N' kc ks (pc + 2) (a0 :: a1 :: a2 :: a3 :: a4 :: a5 :: a6 :: a7 :: a8 :: a9 :: a10 :: a11 :: a12 :: hb_r q :: tl) (hb_r q :: st) h N) : hb_W l own cc nL ret nm tb E z0 R σ0 N0 o h' N' kc ks pc (a0 :: a1 :: a2 :: a3 :: a4 :: a5 :: a6 :: a7 :: a8 :: a9 :: a10 :: a11 :: a12 :: hb_r q :: tl) st h N := by
  intro p e s m args below meth c X σ H locs lr hR hex hlo hL
  exact (lv_aload X.1 X.2.1 hd (hL.at (k := 13) rfl) (k p e s m args below meth c X σ H locs lr hR hex hlo hL))
theorem aw_iinc13 {a0 a1 a2 a3 a4 a5 a6 a7 a8 a9 a10 a11 a12 : hb_V} {z n : Int} {tl : List hb_V} (hd : decode cc pc = .ok (.iinc 13 n, 3)) (hn : 13 < nL) (k : hb_W l own cc nL ret nm tb E z0 R σ0 N0 o h' N' kc ks (pc + 3) (a0 :: a1 :: a2 :: a3 :: a4 :: a5 :: a6 :: a7 :: a8 :: a9 :: a10 :: a11 :: a12 :: hb_i (z + n) :: tl) st h N) : hb_W l own cc nL ret nm tb E z0 R σ0 N0 o h' N' kc ks pc (a0 :: a1 :: a2 :: a3 :: a4 :: a5 :: a6 :: a7 :: a8 :: a9 :: a10 :: a11 :: a12 :: hb_i z :: tl) st h N := by
  intro p e s m args below meth c X σ H locs lr hR hex hlo hL
  refine lv_iinc (k := 13) (x := Int32.ofInt z) X.1 X.2.1 hd hL.has ?_ rfl hn rfl (fun lr2 hs => ?_)
  · exact hb_lv_at (v := hb_i z) rfl
  · exact k p e s m args below meth c X σ H locs lr2 hR hex hlo (hL.put (v := hb_i (z + n)) rfl hn (by rw [show hb_cv σ (hb_i (z + n)) = .int (Int32.ofInt z + Int32.ofInt n) by rw [← Int32.ofInt_add]; rfl]; exact hs) (hb_set 13 rfl rfl))
theorem aw_ist13 {a0 a1 a2 a3 a4 a5 a6 a7 a8 a9 a10 a11 a12 : hb_V} {w : hb_V} {z : Int} {tl : List hb_V} (hd : decode cc pc = .ok (.istore 13, 2)) (hn : 13 < nL) (k : hb_W l own cc nL ret nm tb E z0 R σ0 N0 o h' N' kc ks (pc + 2) (a0 :: a1 :: a2 :: a3 :: a4 :: a5 :: a6 :: a7 :: a8 :: a9 :: a10 :: a11 :: a12 :: hb_i z :: tl) st h N) : hb_W l own cc nL ret nm tb E z0 R σ0 N0 o h' N' kc ks pc (a0 :: a1 :: a2 :: a3 :: a4 :: a5 :: a6 :: a7 :: a8 :: a9 :: a10 :: a11 :: a12 :: w :: tl) (hb_i z :: st) h N := by
  intro p e s m args below meth c X σ H locs lr hR hex hlo hL
  exact lv_istore X.1 X.2.1 hd hL.has hn rfl (fun lr2 hs => k p e s m args below meth c X σ H locs lr2 hR hex hlo (hL.put (v := hb_i z) rfl hn hs (hb_set 13 rfl rfl)))
theorem aw_ipu13 {a0 a1 a2 a3 a4 a5 a6 a7 a8 a9 a10 a11 a12 : hb_V} {z : Int} (hd : decode cc pc = .ok (.istore 13, 2)) (hn : 13 < nL) (k : hb_W l own cc nL ret nm tb E z0 R σ0 N0 o h' N' kc ks (pc + 2) [a0, a1, a2, a3, a4, a5, a6, a7, a8, a9, a10, a11, a12, hb_i z] st h N) : hb_W l own cc nL ret nm tb E z0 R σ0 N0 o h' N' kc ks pc [a0, a1, a2, a3, a4, a5, a6, a7, a8, a9, a10, a11, a12] (hb_i z :: st) h N := by
  intro p e s m args below meth c X σ H locs lr hR hex hlo hL
  exact lv_istore X.1 X.2.1 hd hL.has hn rfl (fun lr2 hs => k p e s m args below meth c X σ H locs lr2 hR hex hlo (hL.put (v := hb_i z) rfl hn hs (hb_push ⟨rfl, rfl⟩)))
theorem aw_ast13 {a0 a1 a2 a3 a4 a5 a6 a7 a8 a9 a10 a11 a12 : hb_V} {w : hb_V} {q : Nat} {tl : List hb_V} (hd : decode cc pc = .ok (.astore 13, 2)) (hn : 13 < nL) (k : hb_W l own cc nL ret nm tb E z0 R σ0 N0 o h' N' kc ks (pc + 2) (a0 :: a1 :: a2 :: a3 :: a4 :: a5 :: a6 :: a7 :: a8 :: a9 :: a10 :: a11 :: a12 :: hb_r q :: tl) st h N) : hb_W l own cc nL ret nm tb E z0 R σ0 N0 o h' N' kc ks pc (a0 :: a1 :: a2 :: a3 :: a4 :: a5 :: a6 :: a7 :: a8 :: a9 :: a10 :: a11 :: a12 :: w :: tl) (hb_r q :: st) h N := by
  intro p e s m args below meth c X σ H locs lr hR hex hlo hL
  exact lv_astore X.1 X.2.1 hd hL.has hn rfl (fun lr2 hs => k p e s m args below meth c X σ H locs lr2 hR hex hlo (hL.put (v := hb_r q) rfl hn hs (hb_set 13 rfl rfl)))
theorem aw_apu13 {a0 a1 a2 a3 a4 a5 a6 a7 a8 a9 a10 a11 a12 : hb_V} {q : Nat} (hd : decode cc pc = .ok (.astore 13, 2)) (hn : 13 < nL) (k : hb_W l own cc nL ret nm tb E z0 R σ0 N0 o h' N' kc ks (pc + 2) [a0, a1, a2, a3, a4, a5, a6, a7, a8, a9, a10, a11, a12, hb_r q] st h N) : hb_W l own cc nL ret nm tb E z0 R σ0 N0 o h' N' kc ks pc [a0, a1, a2, a3, a4, a5, a6, a7, a8, a9, a10, a11, a12] (hb_r q :: st) h N := by
  intro p e s m args below meth c X σ H locs lr hR hex hlo hL
  exact lv_astore X.1 X.2.1 hd hL.has hn rfl (fun lr2 hs => k p e s m args below meth c X σ H locs lr2 hR hex hlo (hL.put (v := hb_r q) rfl hn hs (hb_push ⟨rfl, rfl⟩)))
theorem aw_ild14 {a0 a1 a2 a3 a4 a5 a6 a7 a8 a9 a10 a11 a12 a13 : hb_V} {z : Int} {tl : List hb_V} (hd : decode cc pc = .ok (.iload 14, 2)) (k : hb_W l own cc nL ret nm tb E z0 R σ0 N0 o h' N' kc ks (pc + 2) (a0 :: a1 :: a2 :: a3 :: a4 :: a5 :: a6 :: a7 :: a8 :: a9 :: a10 :: a11 :: a12 :: a13 :: hb_i z :: tl) (hb_i z :: st) h N) : hb_W l own cc nL ret nm tb E z0 R σ0 N0 o h' N' kc ks pc (a0 :: a1 :: a2 :: a3 :: a4 :: a5 :: a6 :: a7 :: a8 :: a9 :: a10 :: a11 :: a12 :: a13 :: hb_i z :: tl) st h N := by
  intro p e s m args below meth c X σ H locs lr hR hex hlo hL
  exact (lv_iload X.1 X.2.1 hd (hL.at (k := 14) rfl) (k p e s m args below meth c X σ H locs lr hR hex hlo hL))
theorem aw_ald14 {a0 a1 a2 a3 a4 a5 a6 a7 a8 a9 a10 a11 a12 a13 : hb_V} {q : Nat} {tl : List hb_V} (hd : decode cc pc = .ok (.aload 14, 2)) (k : hb_W l own cc nL ret nm tb E z0 R σ0 N0 o h' N' kc ks (pc + 2) (a0 :: a1 :: a2 :: a3 :: a4 :: a5 :: a6 :: a7 :: a8 :: a9 :: a10 :: a11 :: a12 :: a13 :: hb_r q :: tl) (hb_r q :: st) h N) : hb_W l own cc nL ret nm tb E z0 R σ0 N0 o h' N' kc ks pc (a0 :: a1 :: a2 :: a3 :: a4 :: a5 :: a6 :: a7 :: a8 :: a9 :: a10 :: a11 :: a12 :: a13 :: hb_r q :: tl) st h N := by
  intro p e s m args below meth c X σ H locs lr hR hex hlo hL
  exact (lv_aload X.1 X.2.1 hd (hL.at (k := 14) rfl) (k p e s m args below meth c X σ H locs lr hR hex hlo hL))
theorem aw_iinc14 {a0 a1 a2 a3 a4 a5 a6 a7 a8 a9 a10 a11 a12 a13 : hb_V} {z n : Int} {tl : List hb_V} (hd : decode cc pc = .ok (.iinc 14 n, 3)) (hn : 14 < nL) (k : hb_W l own cc nL ret nm tb E z0 R σ0 N0 o h' N' kc ks (pc + 3) (a0 :: a1 :: a2 :: a3 :: a4 :: a5 :: a6 :: a7 :: a8 :: a9 :: a10 :: a11 :: a12 :: a13 :: hb_i (z + n) :: tl) st h N) : hb_W l own cc nL ret nm tb E z0 R σ0 N0 o h' N' kc ks pc (a0 :: a1 :: a2 :: a3 :: a4 :: a5 :: a6 :: a7 :: a8 :: a9 :: a10 :: a11 :: a12 :: a13 :: hb_i z :: tl) st h N := by
  intro p e s m args below meth c X σ H locs lr hR hex hlo hL
  refine lv_iinc (k := 14) (x := Int32.ofInt z) X.1 X.2.1 hd hL.has ?_ rfl hn rfl (fun lr2 hs => ?_)
  · exact hb_lv_at (v := hb_i z) rfl
  · exact k p e s m args below meth c X σ H locs lr2 hR hex hlo (hL.put (v := hb_i (z + n)) rfl hn (by rw [show hb_cv σ (hb_i (z + n)) = .int (Int32.ofInt z + Int32.ofInt n) by rw [← Int32.ofInt_add]; rfl]; exact hs) (hb_set 14 rfl rfl))
theorem aw_ist14 {a0 a1 a2 a3 a4 a5 a6 a7 a8 a9 a10 a11 a12 a13 : hb_V} {w : hb_V} {z : Int} {tl : List hb_V} (hd : decode cc pc = .ok (.istore 14, 2)) (hn : 14 < nL) (k : hb_W l own cc nL ret nm tb E z0 R σ0 N0 o h' N' kc ks (pc + 2) (a0 :: a1 :: a2 :: a3 :: a4 :: a5 :: a6 :: a7 :: a8 :: a9 :: a10 :: a11 :: a12 :: a13 :: hb_i z :: tl) st h N) : hb_W l own cc nL ret nm tb E z0 R σ0 N0 o h' N' kc ks pc (a0 :: a1 :: a2 :: a3 :: a4 :: a5 :: a6 :: a7 :: a8 :: a9 :: a10 :: a11 :: a12 :: a13 :: w :: tl) (hb_i z :: st) h N := by
  intro p e s m args below meth c X σ H locs lr hR hex hlo hL
  exact lv_istore X.1 X.2.1 hd hL.has hn rfl (fun lr2 hs => k p e s m args below meth c X σ H locs lr2 hR hex hlo (hL.put (v := hb_i z) rfl hn hs (hb_set 14 rfl rfl)))
theorem aw_ipu14 {a0 a1 a2 a3 a4 a5 a6 a7 a8 a9 a10 a11 a12 a13 : hb_V} {z : Int} (hd : decode cc pc = .ok (.istore 14, 2)) (hn : 14 < nL) (k : hb_W l own cc nL ret nm tb E z0 R σ0 N0 o h' N' kc ks (pc + 2) [a0, a1, a2, a3, a4, a5, a6, a7, a8, a9, a10, a11, a12, a13, hb_i z] st h N) : hb_W l own cc nL ret nm tb E z0 R σ0 N0 o h' N' kc ks pc [a0, a1, a2, a3, a4, a5, a6, a7, a8, a9, a10, a11, a12, a13] (hb_i z :: st) h N := by
  intro p e s m args below meth c X σ H locs lr hR hex hlo hL
  exact lv_istore X.1 X.2.1 hd hL.has hn rfl (fun lr2 hs => k p e s m args below meth c X σ H locs lr2 hR hex hlo (hL.put (v := hb_i z) rfl hn hs (hb_push ⟨rfl, rfl⟩)))
theorem aw_ast14 {a0 a1 a2 a3 a4 a5 a6 a7 a8 a9 a10 a11 a12 a13 : hb_V} {w : hb_V} {q : Nat} {tl : List hb_V} (hd : decode cc pc = .ok (.astore 14, 2)) (hn : 14 < nL) (k : hb_W l own cc nL ret nm tb E z0 R σ0 N0 o h' N' kc ks (pc + 2) (a0 :: a1 :: a2 :: a3 :: a4 :: a5 :: a6 :: a7 :: a8 :: a9 :: a10 :: a11 :: a12 :: a13 :: hb_r q :: tl) st h N) : hb_W l own cc nL ret nm tb E z0 R σ0 N0 o h' N' kc ks pc (a0 :: a1 :: a2 :: a3 :: a4 :: a5 :: a6 :: a7 :: a8 :: a9 :: a10 :: a11 :: a12 :: a13 :: w :: tl) (hb_r q :: st) h N := by
  intro p e s m args below meth c X σ H locs lr hR hex hlo hL
  exact lv_astore X.1 X.2.1 hd hL.has hn rfl (fun lr2 hs => k p e s m args below meth c X σ H locs lr2 hR hex hlo (hL.put (v := hb_r q) rfl hn hs (hb_set 14 rfl rfl)))
theorem aw_apu14 {a0 a1 a2 a3 a4 a5 a6 a7 a8 a9 a10 a11 a12 a13 : hb_V} {q : Nat} (hd : decode cc pc = .ok (.astore 14, 2)) (hn : 14 < nL) (k : hb_W l own cc nL ret nm tb E z0 R σ0 N0 o h' N' kc ks (pc + 2) [a0, a1, a2, a3, a4, a5, a6, a7, a8, a9, a10, a11, a12, a13, hb_r q] st h N) : hb_W l own cc nL ret nm tb E z0 R σ0 N0 o h' N' kc ks pc [a0, a1, a2, a3, a4, a5, a6, a7, a8, a9, a10, a11, a12, a13] (hb_r q :: st) h N := by
  intro p e s m args below meth c X σ H locs lr hR hex hlo hL
  exact lv_astore X.1 X.2.1 hd hL.has hn rfl (fun lr2 hs => k p e s m args below meth c X σ H locs lr2 hR hex hlo (hL.put (v := hb_r q) rfl hn hs (hb_push ⟨rfl, rfl⟩)))
theorem aw_keep {ls2 : List hb_V} (k : hb_W l own cc nL ret nm tb E z0 R σ0 N0 o h' N' kc ks pc ls st h N) : hb_W l own cc nL ret nm tb E z0 R σ0 N0 o h' N' kc ks pc (ls ++ ls2) st h N := by
  intro p e s m args below meth c X σ H locs lr hR hex hlo hL
  exact k p e s m args below meth c X σ H locs lr hR hex hlo hL.drop
theorem aw_h {h2 : hb_H} (e9 : h = h2) (k : hb_W l own cc nL ret nm tb E z0 R σ0 N0 o h' N' kc ks pc ls st h2 N) : hb_W l own cc nL ret nm tb E z0 R σ0 N0 o h' N' kc ks pc ls st h N := by rw [e9]; exact k
theorem aw_st {st2 : List hb_V} (e9 : st = st2) (k : hb_W l own cc nL ret nm tb E z0 R σ0 N0 o h' N' kc ks pc ls st2 h N) : hb_W l own cc nL ret nm tb E z0 R σ0 N0 o h' N' kc ks pc ls st h N := by rw [e9]; exact k
theorem aw_ls {ls2 : List hb_V} (e9 : ls = ls2) (k : hb_W l own cc nL ret nm tb E z0 R σ0 N0 o h' N' kc ks pc ls2 st h N) : hb_W l own cc nL ret nm tb E z0 R σ0 N0 o h' N' kc ks pc ls st h N := by rw [e9]; exact k
end HBL

section HBT
variable {l : Launch} {own : String} {cc : ByteArray} {nL : Nat} {ret : Option FieldType} {nm : String} {tb : List ExceptionTableEntry} {E : hb_E} {z0 : Heap} {R : Room} {σ0 : Nat → Nat} {N0 : Nat} {o : hb_O} {h' : hb_H} {N' : Nat} {kc ks pc : Nat} {ls st : List hb_V} {h : hb_H} {N : Nat}
theorem aw_top {x c9 : Int} (e9 : x = c9) (k : hb_W l own cc nL ret nm tb E z0 R σ0 N0 o h' N' kc ks pc ls (hb_i c9 :: st) h N) : hb_W l own cc nL ret nm tb E z0 R σ0 N0 o h' N' kc ks pc ls (hb_i x :: st) h N := by rw [e9]; exact k
theorem aw_max {ix : Nat} {x y : Int} (hd : decode cc pc = .ok (.invokestatic ix, 3)) (h1 : Cond.methodLink own ix Lib.Math.max.name ∈ hb_ws) (h2 : Cond.static Lib.Math.max.name ∈ hb_ws) (h3 : Cond.initialized "java/lang/Math" ∈ hb_ws) (h4 : Cond.code Lib.Math.max.name Lib.Math.max.code 2 (some .int) ∈ hb_ws) (hx : hb_in x) (hy : hb_in y) (hf : 1 ≤ R.frames) (hlc : hb_cs st + 13 ≤ R.locals) (hkc : kc ≤ R.cells) (hks : ks ≤ R.slots) (k : hb_W l own cc nL ret nm tb E z0 R σ0 N0 o h' N' kc ks (pc + 3) ls (hb_i (max x y) :: st) h N) : hb_W l own cc nL ret nm tb E z0 R σ0 N0 o h' N' kc ks pc ls (hb_i y :: hb_i x :: st) h N := by
  intro p e s m args below meth c X σ H locs lr hR hex hlo hL
  have hts := X.2.2.2.2.1
  have k9 := k p e s m args below meth c X σ H locs lr hR hex hlo hL
  have e9 : Int32.ofInt (max x y) = if Int32.ofInt x < Int32.ofInt y then Int32.ofInt y else Int32.ofInt x := by
    by_cases h9 : Int32.ofInt x < Int32.ofInt y
    · rw [if_pos h9]
      rw [hb_lt (by assumption) (by assumption)] at h9
      rw [show max x y = y by omega]
    · rw [if_neg h9]
      rw [hb_lt (by assumption) (by assumption)] at h9
      rw [show max x y = x by omega]
  simp only [List.map_cons, hb_cv, e9] at k9
  exact va_mmax X.1 X.2.1 (by rw [X.2.2.1]; exact hL.1.symm) X.2.2.2.1 (hts _ h1) (hts _ h2) (hts _ h3) (hts _ h4) hf (by rw [hb_cs_eq]; exact hlc) hkc hks hd k9
theorem aw_min {ix : Nat} {x y : Int} (hd : decode cc pc = .ok (.invokestatic ix, 3)) (h1 : Cond.methodLink own ix Lib.Math.min.name ∈ hb_ws) (h2 : Cond.static Lib.Math.min.name ∈ hb_ws) (h3 : Cond.initialized "java/lang/Math" ∈ hb_ws) (h4 : Cond.code Lib.Math.min.name Lib.Math.min.code 2 (some .int) ∈ hb_ws) (hx : hb_in x) (hy : hb_in y) (hf : 1 ≤ R.frames) (hlc : hb_cs st + 13 ≤ R.locals) (hkc : kc ≤ R.cells) (hks : ks ≤ R.slots) (k : hb_W l own cc nL ret nm tb E z0 R σ0 N0 o h' N' kc ks (pc + 3) ls (hb_i (min x y) :: st) h N) : hb_W l own cc nL ret nm tb E z0 R σ0 N0 o h' N' kc ks pc ls (hb_i y :: hb_i x :: st) h N := by
  intro p e s m args below meth c X σ H locs lr hR hex hlo hL
  have hts := X.2.2.2.2.1
  have k9 := k p e s m args below meth c X σ H locs lr hR hex hlo hL
  have e9 : Int32.ofInt (min x y) = if Int32.ofInt y < Int32.ofInt x then Int32.ofInt y else Int32.ofInt x := by
    by_cases h9 : Int32.ofInt y < Int32.ofInt x
    · rw [if_pos h9]
      rw [hb_lt (by assumption) (by assumption)] at h9
      rw [show min x y = y by omega]
    · rw [if_neg h9]
      rw [hb_lt (by assumption) (by assumption)] at h9
      rw [show min x y = x by omega]
  simp only [List.map_cons, hb_cv, e9] at k9
  exact va_mmin X.1 X.2.1 (by rw [X.2.2.1]; exact hL.1.symm) X.2.2.2.1 (hts _ h1) (hts _ h2) (hts _ h3) (hts _ h4) hf (by rw [hb_cs_eq]; exact hlc) hkc hks hd k9
end HBT
section HBT2
variable {l : Launch} {own : String} {cc : ByteArray} {nL : Nat} {ret : Option FieldType} {nm : String} {tb : List ExceptionTableEntry} {E : hb_E} {z0 : Heap} {R : Room} {σ0 : Nat → Nat} {N0 : Nat} {o : hb_O} {h' : hb_H} {N' : Nat} {kc ks pc : Nat} {ls st : List hb_V} {N : Nat} {G : hb_G} {F : hb_F} {na : Nat}
theorem aw_G {G2 : hb_G} (e9 : G = G2) (k : hb_W l own cc nL ret nm tb E z0 R σ0 N0 o h' N' kc ks pc ls st (hb_w G2 F na) N) : hb_W l own cc nL ret nm tb E z0 R σ0 N0 o h' N' kc ks pc ls st (hb_w G F na) N := by rw [e9]; exact k
theorem aw_putFw {ix ci j q : Nat} {fs : List hb_V} {v : Int} (hd : decode cc pc = .ok (.putfield ix, 3)) (hf : hb_fld own ix ci j) (hs : hb_fls ci) (hw : hb_flw own ci j true .int) (hnm : nm = "<init>") (hp : (Nat.ble 77 q && !(Nat.blt q (77 + na))) = false) (hc : hb_cell q (G q) (F q) = .inl (ci, fs)) (hc2 : .inl (ci, fs.set j (hb_i v)) = hb_cell q (hb_uf (G q) (j : Int) v) (F q)) (k : hb_W l own cc nL ret nm tb E z0 R σ0 N0 o h' N' kc ks (pc + 3) ls st (hb_w (hb_u2 G q (j : Int) v) F na) N) : hb_W l own cc nL ret nm tb E z0 R σ0 N0 o h' N' kc ks pc ls (hb_i v :: hb_r q :: st) (hb_w G F na) N := by
  have hq2 : hb_w G F na q = .inl (ci, fs) := by
    unfold hb_w
    rw [hp, if_neg (by decide)]
    exact hc
  refine aw_putF hd hf hs hw hnm hq2 (fun _ => ⟨rfl, rfl⟩) (fun p h9 => by cases h9) ?_
  rw [hb_w_g hp hc2]
  exact k
end HBT2
def hb_fl (g : Int → Int) (i v : Int) : Int → Int := fun j => if 0 ≤ j ∧ j < i then v else g j
theorem hb_fl_0 (g : Int → Int) (v : Int) : hb_fl g 0 v = g := by
  funext j
  unfold hb_fl
  rw [if_neg (by omega)]
theorem hb_fl_s (g : Int → Int) {i : Int} (v : Int) (h : 0 ≤ i) : hb_uf (hb_fl g i v) i v = hb_fl g (i + 1) v := by
  funext j
  unfold hb_uf hb_fl
  by_cases e : j = i
  · rw [if_pos e, if_pos (by omega)]
  · rw [if_neg e]
    by_cases e2 : 0 ≤ j ∧ j < i
    · rw [if_pos e2, if_pos (by omega)]
    · rw [if_neg e2, if_neg (by omega)]
theorem hb_u1_u1 (G : hb_G) (q : Nat) (f g : Int → Int) : hb_u1 (hb_u1 G q f) q g = hb_u1 G q g := by
  funext p
  unfold hb_u1
  by_cases e : p = q
  · rw [if_pos e, if_pos e]
  · rw [if_neg e, if_neg e, if_neg e]
theorem hb_u1_s (G : hb_G) (q : Nat) (f : Int → Int) : hb_u1 G q f q = f := by unfold hb_u1; rw [if_pos rfl]
theorem hb_u1_n {G : hb_G} {q p : Nat} {f : Int → Int} (e : p ≠ q) : hb_u1 G q f p = G p := by unfold hb_u1; rw [if_neg e]
theorem hb_u1_id (G : hb_G) (q : Nat) : hb_u1 G q (G q) = G := by
  funext p
  unfold hb_u1
  by_cases e : p = q
  · rw [if_pos e, e]
  · rw [if_neg e]
theorem hb_u2_u1 (G : hb_G) (q : Nat) (f : Int → Int) (i v : Int) : hb_u2 (hb_u1 G q f) q i v = hb_u1 G q (hb_uf f i v) := by
  unfold hb_u2
  rw [hb_u1_u1, hb_u1_s]
/-- an array filled -/
def hb_fil (G : hb_G) (q n : Nat) (v : Int) : hb_G := hb_u1 G q (hb_fl (G q) n v)
def hb_tp (par : Int → Int) (n : Nat) (t : Int) : Int := match n with
  | 0 => t
  | n + 1 => if par t = -1 then t else hb_tp par n (par t)
def hb_la (par : Int → Int) (u : Int) (n : Nat) (lv t : Int) : Int := match n with
  | 0 => -1
  | n + 1 => if t = -1 then -1 else if t = u then lv else hb_la par u n (lv + 1) (par t)
def hb_ht (f : Int → Int) (n : Nat) : Int := match n with
  | 0 => 0
  | n + 1 => max (hb_ht f n) (f n)
/-- parents are things or none -/
def hb_tr (par : Int → Int) : Prop := ∀ t, 0 ≤ t ∧ t < 40 → -1 ≤ par t ∧ par t < 40
theorem hb_tp_in {par : Int → Int} (hp : hb_tr par) : ∀ (n : Nat) (t : Int), 0 ≤ t ∧ t < 40 → 0 ≤ hb_tp par n t ∧ hb_tp par n t < 40
  | 0, t, h => h
  | n + 1, t, h => by
    unfold hb_tp
    by_cases e : par t = -1
    · rw [if_pos e]; exact h
    · rw [if_neg e]; exact hb_tp_in hp n _ (by have := hp t h; omega)
theorem hb_la_in {par : Int → Int} {u : Int} : ∀ (n : Nat) (lv t : Int), 0 ≤ lv → -1 ≤ hb_la par u n lv t ∧ hb_la par u n lv t ≤ lv + n
  | 0, lv, t, h => by unfold hb_la; omega
  | n + 1, lv, t, h => by
    unfold hb_la
    by_cases e : t = -1
    · rw [if_pos e]; omega
    · rw [if_neg e]
      by_cases e2 : t = u
      · rw [if_pos e2]; omega
      · rw [if_neg e2]
        have := hb_la_in (par := par) (u := u) n (lv + 1) (par t) (by omega)
        omega
theorem hb_ht_in {f : Int → Int} {M : Int} (hM : 0 ≤ M) (hf : ∀ i, f i ≤ M) : ∀ n, 0 ≤ hb_ht f n ∧ hb_ht f n ≤ M
  | 0 => by unfold hb_ht; omega
  | n + 1 => by
    unfold hb_ht
    have h1 := hb_ht_in hM hf n
    have h2 := hf n
    omega
set_option maxRecDepth 20000 in
set_option maxHeartbeats 1000000 in
theorem c_fill {l : Launch} {G : hb_G} {F : hb_F} {na : Nat} {q n : Nat} {v : Int} (hq : ∀ g, hb_cell q g (F q) = .inr (.inl (0, n, g))) (hp : (Nat.ble 77 q && !(Nat.blt q (77 + na))) = false) (hn : n ≤ 2147483647) : hb_M l yJ7_fill_53178 cJ7_fill_53178 4 none 0 0 0 [hb_r q, hb_i v] (hb_w G F na) (77 + na) (.inl none) (hb_w (hb_fil G q n v) F na) (77 + na) := by
  refine hb_M_in rfl rfl (by decide) rfl (Nat.le_of_ble_eq_true rfl) ?_
  intro E z0 σ0
  have key : ∀ (m : Nat) (i : Int), 0 ≤ i → i ≤ n → n - i < m → hb_W l RJ7 cJ7_fill_53178 4 none "fill" [] E z0 (hb_rm 0 0 0) σ0 (77 + na) (.inl none) (hb_w (hb_fil G q n v) F na) (77 + na) 0 0 5 [hb_r q, hb_i v, hb_i i, hb_i n] [] (hb_w (hb_u1 G q (hb_fl (G q) i v)) F na) (77 + na) := by
    intro m
    induction m with
    | zero => intro i h1 h2 h3; omega
    | succ m ih =>
      intro i h1 h2 h3
      refine aw_ild2 dJ7_fill_53178_5 ?_
      refine aw_ild3 dJ7_fill_53178_6 ?_
      refine aw_icmp_ge (tg := 20) dJ7_fill_53178_7 (by decide) (by first | exact hG _ _ | assumption | (constructor <;> omega)) (by first | exact hG _ _ | assumption | (constructor <;> omega)) (fun c7 => ?_) (fun c7 => ?_)
      · skip
        have e9 : i = n := by omega
        subst e9
        exact aw_vret dJ7_fill_53178_20 rfl rfl rfl rfl (by decide) (by decide)
      · skip
        refine aw_ald0 dJ7_fill_53178_10 ?_
        refine aw_ild2 dJ7_fill_53178_11 ?_
        refine aw_ild1 dJ7_fill_53178_12 ?_
        refine aw_iastw dJ7_fill_53178_13 (fun g => hq g) hp (by constructor <;> omega) hn ?_
        refine aw_G (G2 := hb_u1 G q (hb_fl (G q) (i + 1) v)) (by rw [hb_u2_u1, hb_fl_s _ _ h1]) ?_
        refine aw_iinc2 dJ7_fill_53178_14 (by decide) ?_
        refine aw_goto (tg := 5) dJ7_fill_53178_17 (by decide) ?_
        exact ih (i + 1) (by omega) (by omega) (by omega)
  refine aw_G (G2 := hb_u1 G q (hb_fl (G q) 0 v)) (by rw [hb_fl_0, hb_u1_id]) ?_
  refine aw_iconst dJ7_fill_53178_0 ?_
  refine aw_ipu2 dJ7_fill_53178_1 (by decide) ?_
  refine aw_ald0 dJ7_fill_53178_2 ?_
  refine aw_alen (n := n) dJ7_fill_53178_3 (by unfold hb_w; rw [hp, if_neg (by decide), hb_u1_s]; exact hq _) (by decide) ?_
  refine aw_ipu3 dJ7_fill_53178_4 (by decide) ?_
  exact key (n + 1) 0 (by omega) (by omega) (by omega)
set_option maxRecDepth 20000 in
set_option maxHeartbeats 1000000 in
theorem c_isMove {l : Launch} {G : hb_G} {F : hb_F} {na : Nat} {e : Nat} (he : e < na) (hG : hb_rg G) : hb_M l yX1_isMove cX1_isMove 1 (some .boolean) 0 0 0 [hb_r (77 + e)] (hb_w G F na) (77 + na) (.inl (some (hb_i (hb_b (G (77 + e) 0 = 0 ∨ G (77 + e) 0 = 1))))) (hb_w G F na) (77 + na) := by
  refine hb_M_in rfl rfl (by decide) rfl (Nat.le_of_ble_eq_true rfl) ?_
  intro E z0 σ0
  refine aw_ald0 dX1_isMove_0 ?_
  refine aw_getf dX1_isMove_1 hbf_X1_9 (hb_we he) rfl ?_
  refine aw_if_eq (tg := 15) dX1_isMove_4 (by decide) (by first | exact hG _ _ | assumption | (constructor <;> omega)) (fun c4 => ?_) (fun c4 => ?_)
  · skip
    refine aw_iconst dX1_isMove_15 ?_
    refine aw_goto (tg := 20) dX1_isMove_16 (by decide) ?_
    exact aw_zret dX1_isMove_20 rfl (by first | omega | exact hb_b01 _) (by first | rfl | exact hb_oi1 (by omega) | exact hb_oi0 (by omega)) rfl rfl (by decide) (by decide)
  · skip
    refine aw_ald0 dX1_isMove_7 ?_
    refine aw_getf dX1_isMove_8 hbf_X1_9 (hb_we he) rfl ?_
    refine aw_iconst dX1_isMove_11 ?_
    refine aw_icmp_ne (tg := 19) dX1_isMove_12 (by decide) (by first | exact hG _ _ | assumption | (constructor <;> omega)) (by first | exact hG _ _ | assumption | (constructor <;> omega)) (fun c12 => ?_) (fun c12 => ?_)
    · skip
      refine aw_iconst dX1_isMove_19 ?_
      exact aw_zret dX1_isMove_20 rfl (by first | omega | exact hb_b01 _) (by first | rfl | exact hb_oi1 (by omega) | exact hb_oi0 (by omega)) rfl rfl (by decide) (by decide)
    · skip
      refine aw_iconst dX1_isMove_15 ?_
      refine aw_goto (tg := 20) dX1_isMove_16 (by decide) ?_
      exact aw_zret dX1_isMove_20 rfl (by first | omega | exact hb_b01 _) (by first | rfl | exact hb_oi1 (by omega) | exact hb_oi0 (by omega)) rfl rfl (by decide) (by decide)
def hb_rk (s : Int) : Int := if s = 0 ∨ s = 1 then 0 else if s = 2 then 1 else 2
set_option maxRecDepth 20000 in
set_option maxHeartbeats 1000000 in
theorem c_rank {l : Launch} {G : hb_G} {F : hb_F} {na : Nat} {e : Nat} (he : e < na) (hG : hb_rg G) : hb_M l yX1_rank cX1_rank 1 (some .int) 1 0 0 [hb_r (77 + e)] (hb_w G F na) (77 + na) (.inl (some (hb_i (hb_rk (G (77 + e) 0))))) (hb_w G F na) (77 + na) := by
  refine hb_M_in rfl rfl (by decide) rfl (Nat.le_of_ble_eq_true rfl) ?_
  intro E z0 σ0
  refine aw_ald0 dX1_rank_0 ?_
  refine aw_V0v dX1_rank_1 (c_isMove he hG) (hb_we he) rfl hbY_X1_isMove hbm_X1_21 hbi_X1_isMove hbe_X1_X1_isMove (Nat.le_of_ble_eq_true rfl) ⟨by decide, by decide⟩ (by decide) (by decide) ?_
  refine aw_ifb_eq (tg := 9) dX1_rank_4 (by decide) (fun c4 => ?_) (fun c4 => ?_)
  · skip
    refine aw_ald0 dX1_rank_9 ?_
    refine aw_getf dX1_rank_10 hbf_X1_9 (hb_we he) rfl ?_
    refine aw_iconst dX1_rank_13 ?_
    refine aw_icmp_ne (tg := 21) dX1_rank_14 (by decide) (by first | exact hG _ _ | assumption | (constructor <;> omega)) (by first | exact hG _ _ | assumption | (constructor <;> omega)) (fun c14 => ?_) (fun c14 => ?_)
    · skip
      refine aw_iconst dX1_rank_21 ?_
      exact aw_iret dX1_rank_22 rfl (by exact congrArg (fun z => (Sum.inl (some (hb_i z)) : hb_O)) (by unfold hb_rk; first | rw [if_pos (by omega)] | rw [if_neg (by omega), if_pos (by omega)] | rw [if_neg (by omega), if_neg (by omega)])) rfl rfl (by decide) (by decide)
    · skip
      refine aw_iconst dX1_rank_17 ?_
      refine aw_goto (tg := 22) dX1_rank_18 (by decide) ?_
      exact aw_iret dX1_rank_22 rfl (by exact congrArg (fun z => (Sum.inl (some (hb_i z)) : hb_O)) (by unfold hb_rk; first | rw [if_pos (by omega)] | rw [if_neg (by omega), if_pos (by omega)] | rw [if_neg (by omega), if_neg (by omega)])) rfl rfl (by decide) (by decide)
  · skip
    refine aw_iconst dX1_rank_7 ?_
    exact aw_iret dX1_rank_8 rfl (by exact congrArg (fun z => (Sum.inl (some (hb_i z)) : hb_O)) (by unfold hb_rk; first | rw [if_pos (by omega)] | rw [if_neg (by omega), if_pos (by omega)] | rw [if_neg (by omega), if_neg (by omega)])) rfl rfl (by decide) (by decide)
theorem hb_rk_in (s : Int) : 0 ≤ hb_rk s ∧ hb_rk s ≤ 2 := by unfold hb_rk; split <;> (try split) <;> omega
/-- the order of time: by point, moves, flights, the rest, by number -/
def hb_cb (G : hb_G) (a b : Nat) : Prop := G a 2 < G b 2 ∨ (G a 2 = G b 2 ∧ (hb_rk (G a 0) < hb_rk (G b 0) ∨ (hb_rk (G a 0) = hb_rk (G b 0) ∧ G a 3 < G b 3)))
set_option maxRecDepth 20000 in
set_option maxHeartbeats 1000000 in
theorem c_comesBefore {l : Launch} {G : hb_G} {F : hb_F} {na : Nat} {e f : Nat} (he : e < na) (hf : f < na) (hG : hb_rg G) : hb_M l yX1_comesBefore cX1_comesBefore 2 (some .boolean) 2 0 0 [hb_r (77 + e), hb_r (77 + f)] (hb_w G F na) (77 + na) (.inl (some (hb_i (hb_b (hb_cb G (77 + e) (77 + f)))))) (hb_w G F na) (77 + na) := by
  refine hb_M_in rfl rfl (by decide) rfl (Nat.le_of_ble_eq_true rfl) ?_
  intro E z0 σ0
  refine aw_ald0 dX1_comesBefore_0 ?_
  refine aw_getf dX1_comesBefore_1 hbf_X1_18 (hb_we he) rfl ?_
  refine aw_ald1 dX1_comesBefore_4 ?_
  refine aw_getf dX1_comesBefore_5 hbf_X1_18 (hb_we hf) rfl ?_
  refine aw_icmp_eq (tg := 28) dX1_comesBefore_8 (by decide) (by first | exact hG _ _ | (have h8 := hb_rk_in (G (77 + e) 0); have h9 := hb_rk_in (G (77 + f) 0); constructor <;> omega)) (by first | exact hG _ _ | (have h8 := hb_rk_in (G (77 + e) 0); have h9 := hb_rk_in (G (77 + f) 0); constructor <;> omega)) (fun c8 => ?_) (fun c8 => ?_)
  · skip
    refine aw_ald0 dX1_comesBefore_28 ?_
    refine aw_V0v dX1_comesBefore_29 (c_rank he hG) (hb_we he) rfl hbY_X1_rank hbm_X1_25 hbi_X1_rank hbe_X1_X1_rank (Nat.le_of_ble_eq_true rfl) ⟨by decide, by decide⟩ (by decide) (by decide) ?_
    refine aw_ald1 dX1_comesBefore_32 ?_
    refine aw_V0v dX1_comesBefore_33 (c_rank hf hG) (hb_we hf) rfl hbY_X1_rank hbm_X1_25 hbi_X1_rank hbe_X1_X1_rank (Nat.le_of_ble_eq_true rfl) ⟨by decide, by decide⟩ (by decide) (by decide) ?_
    refine aw_icmp_eq (tg := 56) dX1_comesBefore_36 (by decide) (by first | exact hG _ _ | (have h8 := hb_rk_in (G (77 + e) 0); have h9 := hb_rk_in (G (77 + f) 0); constructor <;> omega)) (by first | exact hG _ _ | (have h8 := hb_rk_in (G (77 + e) 0); have h9 := hb_rk_in (G (77 + f) 0); constructor <;> omega)) (fun c36 => ?_) (fun c36 => ?_)
    · skip
      refine aw_ald0 dX1_comesBefore_56 ?_
      refine aw_getf dX1_comesBefore_57 hbf_X1_29 (hb_we he) rfl ?_
      refine aw_ald1 dX1_comesBefore_60 ?_
      refine aw_getf dX1_comesBefore_61 hbf_X1_29 (hb_we hf) rfl ?_
      refine aw_icmp_ge (tg := 71) dX1_comesBefore_64 (by decide) (by first | exact hG _ _ | (have h8 := hb_rk_in (G (77 + e) 0); have h9 := hb_rk_in (G (77 + f) 0); constructor <;> omega)) (by first | exact hG _ _ | (have h8 := hb_rk_in (G (77 + e) 0); have h9 := hb_rk_in (G (77 + f) 0); constructor <;> omega)) (fun c64 => ?_) (fun c64 => ?_)
      · skip
        refine aw_iconst dX1_comesBefore_71 ?_
        exact aw_zret dX1_comesBefore_72 rfl (by first | omega | exact hb_b01 _) (by first | exact hb_oi1 (by unfold hb_cb; omega) | exact hb_oi0 (by unfold hb_cb; omega)) rfl rfl (by decide) (by decide)
      · skip
        refine aw_iconst dX1_comesBefore_67 ?_
        refine aw_goto (tg := 72) dX1_comesBefore_68 (by decide) ?_
        exact aw_zret dX1_comesBefore_72 rfl (by first | omega | exact hb_b01 _) (by first | exact hb_oi1 (by unfold hb_cb; omega) | exact hb_oi0 (by unfold hb_cb; omega)) rfl rfl (by decide) (by decide)
    · skip
      refine aw_ald0 dX1_comesBefore_39 ?_
      refine aw_V0v dX1_comesBefore_40 (c_rank he hG) (hb_we he) rfl hbY_X1_rank hbm_X1_25 hbi_X1_rank hbe_X1_X1_rank (Nat.le_of_ble_eq_true rfl) ⟨by decide, by decide⟩ (by decide) (by decide) ?_
      refine aw_ald1 dX1_comesBefore_43 ?_
      refine aw_V0v dX1_comesBefore_44 (c_rank hf hG) (hb_we hf) rfl hbY_X1_rank hbm_X1_25 hbi_X1_rank hbe_X1_X1_rank (Nat.le_of_ble_eq_true rfl) ⟨by decide, by decide⟩ (by decide) (by decide) ?_
      refine aw_icmp_ge (tg := 54) dX1_comesBefore_47 (by decide) (by first | exact hG _ _ | (have h8 := hb_rk_in (G (77 + e) 0); have h9 := hb_rk_in (G (77 + f) 0); constructor <;> omega)) (by first | exact hG _ _ | (have h8 := hb_rk_in (G (77 + e) 0); have h9 := hb_rk_in (G (77 + f) 0); constructor <;> omega)) (fun c47 => ?_) (fun c47 => ?_)
      · skip
        refine aw_iconst dX1_comesBefore_54 ?_
        exact aw_zret dX1_comesBefore_55 rfl (by first | omega | exact hb_b01 _) (by first | exact hb_oi1 (by unfold hb_cb; omega) | exact hb_oi0 (by unfold hb_cb; omega)) rfl rfl (by decide) (by decide)
      · skip
        refine aw_iconst dX1_comesBefore_50 ?_
        refine aw_goto (tg := 55) dX1_comesBefore_51 (by decide) ?_
        exact aw_zret dX1_comesBefore_55 rfl (by first | omega | exact hb_b01 _) (by first | exact hb_oi1 (by unfold hb_cb; omega) | exact hb_oi0 (by unfold hb_cb; omega)) rfl rfl (by decide) (by decide)
  · skip
    refine aw_ald0 dX1_comesBefore_11 ?_
    refine aw_getf dX1_comesBefore_12 hbf_X1_18 (hb_we he) rfl ?_
    refine aw_ald1 dX1_comesBefore_15 ?_
    refine aw_getf dX1_comesBefore_16 hbf_X1_18 (hb_we hf) rfl ?_
    refine aw_icmp_ge (tg := 26) dX1_comesBefore_19 (by decide) (by first | exact hG _ _ | (have h8 := hb_rk_in (G (77 + e) 0); have h9 := hb_rk_in (G (77 + f) 0); constructor <;> omega)) (by first | exact hG _ _ | (have h8 := hb_rk_in (G (77 + e) 0); have h9 := hb_rk_in (G (77 + f) 0); constructor <;> omega)) (fun c19 => ?_) (fun c19 => ?_)
    · skip
      refine aw_iconst dX1_comesBefore_26 ?_
      exact aw_zret dX1_comesBefore_27 rfl (by first | omega | exact hb_b01 _) (by first | exact hb_oi1 (by unfold hb_cb; omega) | exact hb_oi0 (by unfold hb_cb; omega)) rfl rfl (by decide) (by decide)
    · skip
      refine aw_iconst dX1_comesBefore_22 ?_
      refine aw_goto (tg := 27) dX1_comesBefore_23 (by decide) ?_
      exact aw_zret dX1_comesBefore_27 rfl (by first | omega | exact hb_b01 _) (by first | exact hb_oi1 (by unfold hb_cb; omega) | exact hb_oi0 (by unfold hb_cb; omega)) rfl rfl (by decide) (by decide)
def hb_am (G : hb_G) (q : Nat) (u : Int) : Int := if u = 0 then G q 6 else if u = 1 then G q 7 else G q 8
set_option maxRecDepth 20000 in
set_option maxHeartbeats 1000000 in
theorem c_amountOf0 {l : Launch} {G : hb_G} {F : hb_F} {na : Nat} {e : Nat} (he : e < na) (hG : hb_rg G) : hb_M l yX1_amountOf cX1_amountOf 2 (some .int) 0 0 0 [hb_r (77 + e), hb_i 0] (hb_w G F na) (77 + na) (.inl (some (hb_i (hb_am G (77 + e) 0)))) (hb_w G F na) (77 + na) := by
  refine hb_M_in rfl rfl (by decide) rfl (Nat.le_of_ble_eq_true rfl) ?_
  intro E z0 σ0
  refine aw_ild1 dX1_amountOf_0 ?_
  refine aw_lookup (off := 27) (tg := 28) dX1_amountOf_1 (by decide) (by decide) rfl (by decide) ?_
  refine aw_ald0 dX1_amountOf_28 ?_
  refine aw_getf dX1_amountOf_29 hbf_X1_32 (hb_we he) rfl ?_
  exact aw_iret dX1_amountOf_32 rfl (by rfl) rfl rfl (by decide) (by decide)
set_option maxRecDepth 20000 in
set_option maxHeartbeats 1000000 in
theorem c_amountOf1 {l : Launch} {G : hb_G} {F : hb_F} {na : Nat} {e : Nat} (he : e < na) (hG : hb_rg G) : hb_M l yX1_amountOf cX1_amountOf 2 (some .int) 0 0 0 [hb_r (77 + e), hb_i 1] (hb_w G F na) (77 + na) (.inl (some (hb_i (hb_am G (77 + e) 1)))) (hb_w G F na) (77 + na) := by
  refine hb_M_in rfl rfl (by decide) rfl (Nat.le_of_ble_eq_true rfl) ?_
  intro E z0 σ0
  refine aw_ild1 dX1_amountOf_0 ?_
  refine aw_lookup (off := 32) (tg := 33) dX1_amountOf_1 (by decide) (by decide) rfl (by decide) ?_
  refine aw_ald0 dX1_amountOf_33 ?_
  refine aw_getf dX1_amountOf_34 hbf_X1_35 (hb_we he) rfl ?_
  exact aw_iret dX1_amountOf_37 rfl (by rfl) rfl rfl (by decide) (by decide)
set_option maxRecDepth 20000 in
set_option maxHeartbeats 1000000 in
theorem c_amountOf2 {l : Launch} {G : hb_G} {F : hb_F} {na : Nat} {e : Nat} (he : e < na) (hG : hb_rg G) : hb_M l yX1_amountOf cX1_amountOf 2 (some .int) 0 0 0 [hb_r (77 + e), hb_i 2] (hb_w G F na) (77 + na) (.inl (some (hb_i (hb_am G (77 + e) 2)))) (hb_w G F na) (77 + na) := by
  refine hb_M_in rfl rfl (by decide) rfl (Nat.le_of_ble_eq_true rfl) ?_
  intro E z0 σ0
  refine aw_ild1 dX1_amountOf_0 ?_
  refine aw_lookup (off := 37) (tg := 38) dX1_amountOf_1 (by decide) (by decide) rfl (by decide) ?_
  refine aw_ald0 dX1_amountOf_38 ?_
  refine aw_getf dX1_amountOf_39 hbf_X1_38 (hb_we he) rfl ?_
  exact aw_iret dX1_amountOf_42 rfl (by rfl) rfl rfl (by decide) (by decide)
theorem c_amountOf {l : Launch} {G : hb_G} {F : hb_F} {na : Nat} {e : Nat} {u : Int} (hu : u = 0 ∨ u = 1 ∨ u = 2) (he : e < na) (hG : hb_rg G) : hb_M l yX1_amountOf cX1_amountOf 2 (some .int) 0 0 0 [hb_r (77 + e), hb_i u] (hb_w G F na) (77 + na) (.inl (some (hb_i (hb_am G (77 + e) u)))) (hb_w G F na) (77 + na) := by
  rcases hu with rfl | rfl | rfl
  · exact c_amountOf0 he hG
  · exact c_amountOf1 he hG
  · exact c_amountOf2 he hG
set_option maxRecDepth 20000 in
set_option maxHeartbeats 1000000 in
theorem c_clear28 {l : Launch} {G : hb_G} {F : hb_F} {na : Nat}  : hb_M l yX7_clear cX7_clear 1 none 1 0 0 [hb_r 28] (hb_w G F na) (77 + na) (.inl none) (hb_w (hb_fil (hb_fil (hb_fil G 29 40 (-1)) 30 40 (-1)) 31 160 (-1)) F na) (77 + na) := by
  refine hb_M_in rfl rfl (by decide) rfl (Nat.le_of_ble_eq_true rfl) ?_
  intro E z0 σ0
  refine aw_ald0 dX7_clear_0 ?_
  refine aw_getf dX7_clear_1 hbf_X7_9 rfl rfl ?_
  refine aw_iconst dX7_clear_4 ?_
  refine aw_S2n dX7_clear_5 (c_fill (fun _ => rfl) rfl (by decide)) hbY_J7_fill_53178 hbm_X7_29 hbs_J7_fill_53178 (Nat.le_of_ble_eq_true rfl) ⟨by decide, by decide⟩ (by decide) (by decide) ?_
  refine aw_ald0 dX7_clear_8 ?_
  refine aw_getf dX7_clear_9 hbf_X7_15 rfl rfl ?_
  refine aw_iconst dX7_clear_12 ?_
  refine aw_S2n dX7_clear_13 (c_fill (fun _ => rfl) rfl (by decide)) hbY_J7_fill_53178 hbm_X7_29 hbs_J7_fill_53178 (Nat.le_of_ble_eq_true rfl) ⟨by decide, by decide⟩ (by decide) (by decide) ?_
  refine aw_ald0 dX7_clear_16 ?_
  refine aw_getf dX7_clear_17 hbf_X7_18 rfl rfl ?_
  refine aw_iconst dX7_clear_20 ?_
  refine aw_S2n dX7_clear_21 (c_fill (fun _ => rfl) rfl (by decide)) hbY_J7_fill_53178 hbm_X7_29 hbs_J7_fill_53178 (Nat.le_of_ble_eq_true rfl) ⟨by decide, by decide⟩ (by decide) (by decide) ?_
  exact aw_vret dX7_clear_24 rfl rfl rfl rfl (by decide) (by decide)
set_option maxRecDepth 20000 in
set_option maxHeartbeats 1000000 in
theorem c_topOf28 {l : Launch} {G : hb_G} {F : hb_F} {na : Nat} {t : Int} (ht : 0 ≤ t ∧ t < 40) (hp : hb_tr (G 29)) (hG : hb_rg G) : hb_M l yX7_topOf cX7_topOf 4 (some .int) 0 0 0 [hb_r 28, hb_i t] (hb_w G F na) (77 + na) (.inl (some (hb_i (hb_tp (G 29) 4 t)))) (hb_w G F na) (77 + na) := by
  refine hb_M_in rfl rfl (by decide) rfl (Nat.le_of_ble_eq_true rfl) ?_
  intro E z0 σ0
  have key : ∀ (n : Nat) (v s : Int), s + n = 4 → 0 ≤ s → 0 ≤ v ∧ v < 40 → hb_tp (G 29) n v = hb_tp (G 29) 4 t → hb_W l RX7 cX7_topOf 4 (some .int) "topOf" [] E z0 (hb_rm 0 0 0) σ0 (77 + na) (.inl (some (hb_i (hb_tp (G 29) 4 t)))) (hb_w G F na) (77 + na) 0 0 4 [hb_r 28, hb_i t, hb_i v, hb_i s] [] (hb_w G F na) (77 + na) := by
    intro n
    induction n with
    | zero =>
      intro v s h0 h9 h1 h3
      refine aw_ild3 dX7_topOf_4 ?_
      refine aw_iconst dX7_topOf_5 ?_
      refine aw_icmp_ge (tg := 32) dX7_topOf_6 (by decide) (by first | exact hG _ _ | assumption | (constructor <;> omega)) (by first | exact hG _ _ | assumption | (constructor <;> omega)) (fun c6 => ?_) (fun c6 => absurd c6 (by omega))
      refine aw_ild2 dX7_topOf_32 ?_
      exact aw_iret dX7_topOf_33 rfl (by exact congrArg (fun z => (Sum.inl (some (hb_i z)) : hb_O)) h3.symm) rfl rfl (by decide) (by decide)
    | succ n ih =>
      intro v s h0 h9 h1 h3
      have hv := hp v h1
      refine aw_ild3 dX7_topOf_4 ?_
      refine aw_iconst dX7_topOf_5 ?_
      refine aw_icmp_ge (tg := 32) dX7_topOf_6 (by decide) (by first | exact hG _ _ | assumption | (constructor <;> omega)) (by first | exact hG _ _ | assumption | (constructor <;> omega)) (fun c6 => absurd c6 (by omega)) (fun c6 => ?_)
      refine aw_ald0 dX7_topOf_9 ?_
      refine aw_getf dX7_topOf_10 hbf_X7_9 rfl rfl ?_
      refine aw_ild2 dX7_topOf_13 ?_
      refine aw_iald dX7_topOf_14 rfl (by constructor <;> omega) (by decide) ?_
      refine aw_iconst dX7_topOf_15 ?_
      refine aw_icmp_eq (tg := 32) dX7_topOf_16 (by decide) (by first | exact hG _ _ | assumption | (constructor <;> omega)) (by first | exact hG _ _ | assumption | (constructor <;> omega)) (fun c16 => ?_) (fun c16 => ?_)
      · skip
        refine aw_ild2 dX7_topOf_32 ?_
        exact aw_iret dX7_topOf_33 rfl (by exact congrArg (fun z => (Sum.inl (some (hb_i z)) : hb_O)) (by rw [← h3]; unfold hb_tp; first | rfl | rw [if_pos (by assumption)])) rfl rfl (by decide) (by decide)
      · skip
        refine aw_ald0 dX7_topOf_19 ?_
        refine aw_getf dX7_topOf_20 hbf_X7_9 rfl rfl ?_
        refine aw_ild2 dX7_topOf_23 ?_
        refine aw_iald dX7_topOf_24 rfl (by constructor <;> omega) (by decide) ?_
        refine aw_ist2 dX7_topOf_25 (by decide) ?_
        refine aw_iinc3 dX7_topOf_26 (by decide) ?_
        refine aw_goto (tg := 4) dX7_topOf_29 (by decide) ?_
        exact ih _ _ (by omega) (by omega) (by omega) (by rw [← h3]; conv => rhs; unfold hb_tp; rw [if_neg (by assumption)])
  refine aw_ild1 dX7_topOf_0 ?_
  refine aw_ipu2 dX7_topOf_1 (by decide) ?_
  refine aw_iconst dX7_topOf_2 ?_
  refine aw_ipu3 dX7_topOf_3 (by decide) ?_
  exact key 4 t 0 (by omega) (by omega) ht rfl
set_option maxRecDepth 20000 in
set_option maxHeartbeats 1000000 in
theorem c_levelsAbove28 {l : Launch} {G : hb_G} {F : hb_F} {na : Nat} {u t : Int} (hu : hb_in u) (ht : 0 ≤ t ∧ t < 40) (hp : hb_tr (G 29)) (hG : hb_rg G) : hb_M l yX7_levelsAbove cX7_levelsAbove 5 (some .int) 0 0 0 [hb_r 28, hb_i u, hb_i t] (hb_w G F na) (77 + na) (.inl (some (hb_i (hb_la (G 29) u 5 0 t)))) (hb_w G F na) (77 + na) := by
  refine hb_M_in rfl rfl (by decide) rfl (Nat.le_of_ble_eq_true rfl) ?_
  intro E z0 σ0
  have key : ∀ (n : Nat) (v s : Int), s + n = 5 → 0 ≤ s → -1 ≤ v ∧ v < 40 → hb_la (G 29) u n s v = hb_la (G 29) u 5 0 t → hb_W l RX7 cX7_levelsAbove 5 (some .int) "levelsAbove" [] E z0 (hb_rm 0 0 0) σ0 (77 + na) (.inl (some (hb_i (hb_la (G 29) u 5 0 t)))) (hb_w G F na) (77 + na) 0 0 5 [hb_r 28, hb_i u, hb_i t, hb_i v, hb_i s] [] (hb_w G F na) (77 + na) := by
    intro n
    induction n with
    | zero =>
      intro v s h0 h9 h1 h3
      refine aw_ild4 dX7_levelsAbove_5 ?_
      refine aw_iconst dX7_levelsAbove_7 ?_
      refine aw_icmp_gt (tg := 37) dX7_levelsAbove_8 (by decide) (by first | exact hG _ _ | assumption | (constructor <;> omega)) (by first | exact hG _ _ | assumption | (constructor <;> omega)) (fun c8 => ?_) (fun c8 => absurd c8 (by omega))
      refine aw_iconst dX7_levelsAbove_37 ?_
      exact aw_iret dX7_levelsAbove_38 rfl (by exact congrArg (fun z => (Sum.inl (some (hb_i z)) : hb_O)) h3.symm) rfl rfl (by decide) (by decide)
    | succ n ih =>
      intro v s h0 h9 h1 h3
      refine aw_ild4 dX7_levelsAbove_5 ?_
      refine aw_iconst dX7_levelsAbove_7 ?_
      refine aw_icmp_gt (tg := 37) dX7_levelsAbove_8 (by decide) (by first | exact hG _ _ | assumption | (constructor <;> omega)) (by first | exact hG _ _ | assumption | (constructor <;> omega)) (fun c8 => absurd c8 (by omega)) (fun c8 => ?_)
      refine aw_ild3 dX7_levelsAbove_11 ?_
      refine aw_iconst dX7_levelsAbove_12 ?_
      refine aw_icmp_eq (tg := 37) dX7_levelsAbove_13 (by decide) (by first | exact hG _ _ | assumption | (constructor <;> omega)) (by first | exact hG _ _ | assumption | (constructor <;> omega)) (fun c13 => ?_) (fun c13 => ?_)
      · skip
        refine aw_iconst dX7_levelsAbove_37 ?_
        exact aw_iret dX7_levelsAbove_38 rfl (by exact congrArg (fun z => (Sum.inl (some (hb_i z)) : hb_O)) (by rw [← h3]; unfold hb_la; first | rw [if_pos (by assumption)] | rw [if_neg (by assumption), if_pos (by assumption)])) rfl rfl (by decide) (by decide)
      · skip
        refine aw_ild3 dX7_levelsAbove_16 ?_
        refine aw_ild1 dX7_levelsAbove_17 ?_
        refine aw_icmp_ne (tg := 24) dX7_levelsAbove_18 (by decide) (by first | exact hG _ _ | assumption | (constructor <;> omega)) (by first | exact hG _ _ | assumption | (constructor <;> omega)) (fun c18 => ?_) (fun c18 => ?_)
        · skip
          refine aw_ald0 dX7_levelsAbove_24 ?_
          refine aw_getf dX7_levelsAbove_25 hbf_X7_9 rfl rfl ?_
          refine aw_ild3 dX7_levelsAbove_28 ?_
          have hv := hp v (by omega)
          refine aw_iald dX7_levelsAbove_29 rfl (by constructor <;> omega) (by decide) ?_
          refine aw_ist3 dX7_levelsAbove_30 (by decide) ?_
          refine aw_iinc4 dX7_levelsAbove_31 (by decide) ?_
          refine aw_goto (tg := 5) dX7_levelsAbove_34 (by decide) ?_
          exact ih _ _ (by omega) (by omega) (by omega) (by rw [← h3]; conv => rhs; unfold hb_la; rw [if_neg (by assumption), if_neg (by assumption)])
        · skip
          refine aw_ild4 dX7_levelsAbove_21 ?_
          exact aw_iret dX7_levelsAbove_23 rfl (by exact congrArg (fun z => (Sum.inl (some (hb_i z)) : hb_O)) (by rw [← h3]; unfold hb_la; first | rw [if_pos (by assumption)] | rw [if_neg (by assumption), if_pos (by assumption)])) rfl rfl (by decide) (by decide)
  refine aw_ild2 dX7_levelsAbove_0 ?_
  refine aw_ipu3 dX7_levelsAbove_1 (by decide) ?_
  refine aw_iconst dX7_levelsAbove_2 ?_
  refine aw_ipu4 dX7_levelsAbove_3 (by decide) ?_
  exact key 5 t 0 (by omega) (by omega) (by omega) rfl
set_option maxRecDepth 20000 in
set_option maxHeartbeats 1000000 in
theorem c_depthOf28 {l : Launch} {G : hb_G} {F : hb_F} {na : Nat} {t : Int} (ht : 0 ≤ t ∧ t < 40) (hp : hb_tr (G 29)) (hG : hb_rg G) : hb_M l yX7_depthOf cX7_depthOf 2 (some .int) 1 0 0 [hb_r 28, hb_i t] (hb_w G F na) (77 + na) (.inl (some (hb_i (hb_la (G 29) (hb_tp (G 29) 4 t) 5 0 t)))) (hb_w G F na) (77 + na) := by
  refine hb_M_in rfl rfl (by decide) rfl (Nat.le_of_ble_eq_true rfl) ?_
  intro E z0 σ0
  have h9 := hb_tp_in hp 4 t ht
  refine aw_ald0 dX7_depthOf_0 ?_
  refine aw_ald0 dX7_depthOf_1 ?_
  refine aw_ild1 dX7_depthOf_2 ?_
  refine aw_V1v dX7_depthOf_3 (c_topOf28 (by first | assumption | omega | (constructor <;> omega) | exact hG _ _) hp hG) rfl rfl hbY_X7_topOf hbm_X7_71 hbi_X7_topOf hbe_X7_X7_topOf (Nat.le_of_ble_eq_true rfl) ⟨by decide, by decide⟩ (by decide) (by decide) ?_
  refine aw_ild1 dX7_depthOf_6 ?_
  refine aw_V2v dX7_depthOf_7 (c_levelsAbove28 (by first | assumption | omega | (constructor <;> omega) | exact hG _ _) (by first | assumption | omega | (constructor <;> omega) | exact hG _ _) hp hG) rfl rfl hbY_X7_levelsAbove hbm_X7_50 hbi_X7_levelsAbove hbe_X7_X7_levelsAbove (Nat.le_of_ble_eq_true rfl) ⟨by decide, by decide⟩ (by decide) (by decide) ?_
  exact aw_iret dX7_depthOf_10 rfl (by first | rfl | exact hb_oi1 (by omega) | exact hb_oi0 (by omega)) rfl rfl (by decide) (by decide)
set_option maxRecDepth 20000 in
set_option maxHeartbeats 1000000 in
theorem c_heightOf28 {l : Launch} {G : hb_G} {F : hb_F} {na : Nat} {t : Int} (ht : hb_in t) (hp : hb_tr (G 29)) (hG : hb_rg G) : hb_M l yX7_heightOf cX7_heightOf 4 (some .int) 1 0 0 [hb_r 28, hb_i t] (hb_w G F na) (77 + na) (.inl (some (hb_i (hb_ht (fun i => hb_la (G 29) t 5 0 i) 40)))) (hb_w G F na) (77 + na) := by
  refine hb_M_in rfl rfl (by decide) rfl (Nat.le_of_ble_eq_true rfl) ?_
  intro E z0 σ0
  have hla : ∀ i, -1 ≤ hb_la (G 29) t 5 0 i ∧ hb_la (G 29) t 5 0 i ≤ 0 + (5 : Nat) := fun i => hb_la_in 5 0 i (by omega)
  have hht : ∀ n, 0 ≤ hb_ht (fun i => hb_la (G 29) t 5 0 i) n ∧ hb_ht (fun i => hb_la (G 29) t 5 0 i) n ≤ 5 := hb_ht_in (by omega) (fun i => by have := hla i; omega)
  have key : ∀ (n k : Nat), k + n = 40 → hb_W l RX7 cX7_heightOf 4 (some .int) "heightOf" [] E z0 (hb_rm 1 0 0) σ0 (77 + na) (.inl (some (hb_i (hb_ht (fun i => hb_la (G 29) t 5 0 i) 40)))) (hb_w G F na) (77 + na) 0 0 4 [hb_r 28, hb_i t, hb_i (hb_ht (fun i => hb_la (G 29) t 5 0 i) k), hb_i (k : Int)] [] (hb_w G F na) (77 + na) := by
    intro n
    induction n with
    | zero =>
      intro k h0
      refine aw_ild3 dX7_heightOf_4 ?_
      refine aw_bipush dX7_heightOf_5 (by decide) ?_
      refine aw_icmp_ge (tg := 27) dX7_heightOf_7 (by decide) (by first | exact hG _ _ | assumption | (constructor <;> omega)) (by first | exact hG _ _ | assumption | (constructor <;> omega)) (fun c7 => ?_) (fun c7 => absurd c7 (by omega))
      refine aw_ild2 dX7_heightOf_27 ?_
      exact aw_iret dX7_heightOf_28 rfl (by exact congrArg (fun z => (Sum.inl (some (hb_i z)) : hb_O)) (by rw [show k = 40 by omega])) rfl rfl (by decide) (by decide)
    | succ n ih =>
      intro k h0
      have hk1 := hla k
      have hk2 := hht k
      refine aw_ild3 dX7_heightOf_4 ?_
      refine aw_bipush dX7_heightOf_5 (by decide) ?_
      refine aw_icmp_ge (tg := 27) dX7_heightOf_7 (by decide) (by first | exact hG _ _ | assumption | (constructor <;> omega)) (by first | exact hG _ _ | assumption | (constructor <;> omega)) (fun c7 => absurd c7 (by omega)) (fun c7 => ?_)
      refine aw_ild2 dX7_heightOf_10 ?_
      refine aw_ald0 dX7_heightOf_11 ?_
      refine aw_ild1 dX7_heightOf_12 ?_
      refine aw_ild3 dX7_heightOf_13 ?_
      refine aw_V2v dX7_heightOf_14 (c_levelsAbove28 (by first | assumption | omega | (constructor <;> omega) | exact hG _ _) (by first | assumption | omega | (constructor <;> omega) | exact hG _ _) hp hG) rfl rfl hbY_X7_levelsAbove hbm_X7_50 hbi_X7_levelsAbove hbe_X7_X7_levelsAbove (Nat.le_of_ble_eq_true rfl) ⟨by decide, by decide⟩ (by decide) (by decide) ?_
      refine aw_max dX7_heightOf_17 hbm_X7_74 hbs_Lib_Math_max_name hbY_Lib_Math_max_name.2.1 hbY_Lib_Math_max_name.1 (by constructor <;> omega) (by constructor <;> omega) (by decide) (Nat.le_of_ble_eq_true rfl) (by decide) (by decide) ?_
      refine aw_ist2 dX7_heightOf_20 (by decide) ?_
      refine aw_iinc3 dX7_heightOf_21 (by decide) ?_
      refine aw_goto (tg := 4) dX7_heightOf_24 (by decide) ?_
      exact ih (k + 1) (by omega)
  refine aw_iconst dX7_heightOf_0 ?_
  refine aw_ipu2 dX7_heightOf_1 (by decide) ?_
  refine aw_iconst dX7_heightOf_2 ?_
  refine aw_ipu3 dX7_heightOf_3 (by decide) ?_
  exact key 40 0 (by omega)
set_option maxRecDepth 20000 in
set_option maxHeartbeats 1000000 in
theorem c_fits28 {l : Launch} {G : hb_G} {F : hb_F} {na : Nat} {t a p : Int} (ht : 0 ≤ t ∧ t < 40) (ha : 0 ≤ a ∧ a < 40) (hpp : 0 ≤ p ∧ p < 4) (hk : 0 ≤ G 7 a ∧ G 7 a < 12) (hG : hb_rg G) : hb_M l yX7_fits cX7_fits 4 (some .boolean) 0 0 0 [hb_r 28, hb_i t, hb_i a, hb_i p] (hb_w G F na) (77 + na) (.inl (some (hb_i (hb_b (G 2 (G 7 a * 4 + p) = G 7 t))))) (hb_w G F na) (77 + na) := by
  refine hb_M_in rfl rfl (by decide) rfl (Nat.le_of_ble_eq_true rfl) ?_
  intro E z0 σ0
  refine aw_ald0 dX7_fits_0 ?_
  refine aw_getf dX7_fits_1 hbf_X7_25 rfl rfl ?_
  refine aw_getf dX7_fits_4 hbf_X7_61 rfl rfl ?_
  refine aw_ald0 dX7_fits_7 ?_
  refine aw_getf dX7_fits_8 hbf_X7_21 rfl rfl ?_
  refine aw_getf dX7_fits_11 hbf_X7_66 rfl rfl ?_
  refine aw_ild2 dX7_fits_14 ?_
  refine aw_iald dX7_fits_15 rfl (by constructor <;> omega) (by decide) ?_
  refine aw_iconst dX7_fits_16 ?_
  refine aw_imul dX7_fits_17 ?_
  refine aw_ild3 dX7_fits_18 ?_
  refine aw_iadd dX7_fits_19 ?_
  refine aw_iald dX7_fits_20 rfl (by constructor <;> omega) (by decide) ?_
  refine aw_ald0 dX7_fits_21 ?_
  refine aw_getf dX7_fits_22 hbf_X7_21 rfl rfl ?_
  refine aw_getf dX7_fits_25 hbf_X7_66 rfl rfl ?_
  refine aw_ild1 dX7_fits_28 ?_
  refine aw_iald dX7_fits_29 rfl (by constructor <;> omega) (by decide) ?_
  refine aw_icmp_ne (tg := 37) dX7_fits_30 (by decide) (by first | exact hG _ _ | assumption | (constructor <;> omega)) (by first | exact hG _ _ | assumption | (constructor <;> omega)) (fun c30 => ?_) (fun c30 => ?_)
  · skip
    refine aw_iconst dX7_fits_37 ?_
    exact aw_zret dX7_fits_38 rfl (by first | omega | exact hb_b01 _) (by first | rfl | exact hb_oi1 (by omega) | exact hb_oi0 (by omega)) rfl rfl (by decide) (by decide)
  · skip
    refine aw_iconst dX7_fits_33 ?_
    refine aw_goto (tg := 38) dX7_fits_34 (by decide) ?_
    exact aw_zret dX7_fits_38 rfl (by first | omega | exact hb_b01 _) (by first | rfl | exact hb_oi1 (by omega) | exact hb_oi0 (by omega)) rfl rfl (by decide) (by decide)
set_option maxRecDepth 20000 in
set_option maxHeartbeats 1000000 in
theorem c_clear33 {l : Launch} {G : hb_G} {F : hb_F} {na : Nat}  : hb_M l yX7_clear cX7_clear 1 none 1 0 0 [hb_r 33] (hb_w G F na) (77 + na) (.inl none) (hb_w (hb_fil (hb_fil (hb_fil G 34 40 (-1)) 35 40 (-1)) 36 160 (-1)) F na) (77 + na) := by
  refine hb_M_in rfl rfl (by decide) rfl (Nat.le_of_ble_eq_true rfl) ?_
  intro E z0 σ0
  refine aw_ald0 dX7_clear_0 ?_
  refine aw_getf dX7_clear_1 hbf_X7_9 rfl rfl ?_
  refine aw_iconst dX7_clear_4 ?_
  refine aw_S2n dX7_clear_5 (c_fill (fun _ => rfl) rfl (by decide)) hbY_J7_fill_53178 hbm_X7_29 hbs_J7_fill_53178 (Nat.le_of_ble_eq_true rfl) ⟨by decide, by decide⟩ (by decide) (by decide) ?_
  refine aw_ald0 dX7_clear_8 ?_
  refine aw_getf dX7_clear_9 hbf_X7_15 rfl rfl ?_
  refine aw_iconst dX7_clear_12 ?_
  refine aw_S2n dX7_clear_13 (c_fill (fun _ => rfl) rfl (by decide)) hbY_J7_fill_53178 hbm_X7_29 hbs_J7_fill_53178 (Nat.le_of_ble_eq_true rfl) ⟨by decide, by decide⟩ (by decide) (by decide) ?_
  refine aw_ald0 dX7_clear_16 ?_
  refine aw_getf dX7_clear_17 hbf_X7_18 rfl rfl ?_
  refine aw_iconst dX7_clear_20 ?_
  refine aw_S2n dX7_clear_21 (c_fill (fun _ => rfl) rfl (by decide)) hbY_J7_fill_53178 hbm_X7_29 hbs_J7_fill_53178 (Nat.le_of_ble_eq_true rfl) ⟨by decide, by decide⟩ (by decide) (by decide) ?_
  exact aw_vret dX7_clear_24 rfl rfl rfl rfl (by decide) (by decide)
set_option maxRecDepth 20000 in
set_option maxHeartbeats 1000000 in
theorem c_topOf33 {l : Launch} {G : hb_G} {F : hb_F} {na : Nat} {t : Int} (ht : 0 ≤ t ∧ t < 40) (hp : hb_tr (G 34)) (hG : hb_rg G) : hb_M l yX7_topOf cX7_topOf 4 (some .int) 0 0 0 [hb_r 33, hb_i t] (hb_w G F na) (77 + na) (.inl (some (hb_i (hb_tp (G 34) 4 t)))) (hb_w G F na) (77 + na) := by
  refine hb_M_in rfl rfl (by decide) rfl (Nat.le_of_ble_eq_true rfl) ?_
  intro E z0 σ0
  have key : ∀ (n : Nat) (v s : Int), s + n = 4 → 0 ≤ s → 0 ≤ v ∧ v < 40 → hb_tp (G 34) n v = hb_tp (G 34) 4 t → hb_W l RX7 cX7_topOf 4 (some .int) "topOf" [] E z0 (hb_rm 0 0 0) σ0 (77 + na) (.inl (some (hb_i (hb_tp (G 34) 4 t)))) (hb_w G F na) (77 + na) 0 0 4 [hb_r 33, hb_i t, hb_i v, hb_i s] [] (hb_w G F na) (77 + na) := by
    intro n
    induction n with
    | zero =>
      intro v s h0 h9 h1 h3
      refine aw_ild3 dX7_topOf_4 ?_
      refine aw_iconst dX7_topOf_5 ?_
      refine aw_icmp_ge (tg := 32) dX7_topOf_6 (by decide) (by first | exact hG _ _ | assumption | (constructor <;> omega)) (by first | exact hG _ _ | assumption | (constructor <;> omega)) (fun c6 => ?_) (fun c6 => absurd c6 (by omega))
      refine aw_ild2 dX7_topOf_32 ?_
      exact aw_iret dX7_topOf_33 rfl (by exact congrArg (fun z => (Sum.inl (some (hb_i z)) : hb_O)) h3.symm) rfl rfl (by decide) (by decide)
    | succ n ih =>
      intro v s h0 h9 h1 h3
      have hv := hp v h1
      refine aw_ild3 dX7_topOf_4 ?_
      refine aw_iconst dX7_topOf_5 ?_
      refine aw_icmp_ge (tg := 32) dX7_topOf_6 (by decide) (by first | exact hG _ _ | assumption | (constructor <;> omega)) (by first | exact hG _ _ | assumption | (constructor <;> omega)) (fun c6 => absurd c6 (by omega)) (fun c6 => ?_)
      refine aw_ald0 dX7_topOf_9 ?_
      refine aw_getf dX7_topOf_10 hbf_X7_9 rfl rfl ?_
      refine aw_ild2 dX7_topOf_13 ?_
      refine aw_iald dX7_topOf_14 rfl (by constructor <;> omega) (by decide) ?_
      refine aw_iconst dX7_topOf_15 ?_
      refine aw_icmp_eq (tg := 32) dX7_topOf_16 (by decide) (by first | exact hG _ _ | assumption | (constructor <;> omega)) (by first | exact hG _ _ | assumption | (constructor <;> omega)) (fun c16 => ?_) (fun c16 => ?_)
      · skip
        refine aw_ild2 dX7_topOf_32 ?_
        exact aw_iret dX7_topOf_33 rfl (by exact congrArg (fun z => (Sum.inl (some (hb_i z)) : hb_O)) (by rw [← h3]; unfold hb_tp; first | rfl | rw [if_pos (by assumption)])) rfl rfl (by decide) (by decide)
      · skip
        refine aw_ald0 dX7_topOf_19 ?_
        refine aw_getf dX7_topOf_20 hbf_X7_9 rfl rfl ?_
        refine aw_ild2 dX7_topOf_23 ?_
        refine aw_iald dX7_topOf_24 rfl (by constructor <;> omega) (by decide) ?_
        refine aw_ist2 dX7_topOf_25 (by decide) ?_
        refine aw_iinc3 dX7_topOf_26 (by decide) ?_
        refine aw_goto (tg := 4) dX7_topOf_29 (by decide) ?_
        exact ih _ _ (by omega) (by omega) (by omega) (by rw [← h3]; conv => rhs; unfold hb_tp; rw [if_neg (by assumption)])
  refine aw_ild1 dX7_topOf_0 ?_
  refine aw_ipu2 dX7_topOf_1 (by decide) ?_
  refine aw_iconst dX7_topOf_2 ?_
  refine aw_ipu3 dX7_topOf_3 (by decide) ?_
  exact key 4 t 0 (by omega) (by omega) ht rfl
set_option maxRecDepth 20000 in
set_option maxHeartbeats 1000000 in
theorem c_levelsAbove33 {l : Launch} {G : hb_G} {F : hb_F} {na : Nat} {u t : Int} (hu : hb_in u) (ht : 0 ≤ t ∧ t < 40) (hp : hb_tr (G 34)) (hG : hb_rg G) : hb_M l yX7_levelsAbove cX7_levelsAbove 5 (some .int) 0 0 0 [hb_r 33, hb_i u, hb_i t] (hb_w G F na) (77 + na) (.inl (some (hb_i (hb_la (G 34) u 5 0 t)))) (hb_w G F na) (77 + na) := by
  refine hb_M_in rfl rfl (by decide) rfl (Nat.le_of_ble_eq_true rfl) ?_
  intro E z0 σ0
  have key : ∀ (n : Nat) (v s : Int), s + n = 5 → 0 ≤ s → -1 ≤ v ∧ v < 40 → hb_la (G 34) u n s v = hb_la (G 34) u 5 0 t → hb_W l RX7 cX7_levelsAbove 5 (some .int) "levelsAbove" [] E z0 (hb_rm 0 0 0) σ0 (77 + na) (.inl (some (hb_i (hb_la (G 34) u 5 0 t)))) (hb_w G F na) (77 + na) 0 0 5 [hb_r 33, hb_i u, hb_i t, hb_i v, hb_i s] [] (hb_w G F na) (77 + na) := by
    intro n
    induction n with
    | zero =>
      intro v s h0 h9 h1 h3
      refine aw_ild4 dX7_levelsAbove_5 ?_
      refine aw_iconst dX7_levelsAbove_7 ?_
      refine aw_icmp_gt (tg := 37) dX7_levelsAbove_8 (by decide) (by first | exact hG _ _ | assumption | (constructor <;> omega)) (by first | exact hG _ _ | assumption | (constructor <;> omega)) (fun c8 => ?_) (fun c8 => absurd c8 (by omega))
      refine aw_iconst dX7_levelsAbove_37 ?_
      exact aw_iret dX7_levelsAbove_38 rfl (by exact congrArg (fun z => (Sum.inl (some (hb_i z)) : hb_O)) h3.symm) rfl rfl (by decide) (by decide)
    | succ n ih =>
      intro v s h0 h9 h1 h3
      refine aw_ild4 dX7_levelsAbove_5 ?_
      refine aw_iconst dX7_levelsAbove_7 ?_
      refine aw_icmp_gt (tg := 37) dX7_levelsAbove_8 (by decide) (by first | exact hG _ _ | assumption | (constructor <;> omega)) (by first | exact hG _ _ | assumption | (constructor <;> omega)) (fun c8 => absurd c8 (by omega)) (fun c8 => ?_)
      refine aw_ild3 dX7_levelsAbove_11 ?_
      refine aw_iconst dX7_levelsAbove_12 ?_
      refine aw_icmp_eq (tg := 37) dX7_levelsAbove_13 (by decide) (by first | exact hG _ _ | assumption | (constructor <;> omega)) (by first | exact hG _ _ | assumption | (constructor <;> omega)) (fun c13 => ?_) (fun c13 => ?_)
      · skip
        refine aw_iconst dX7_levelsAbove_37 ?_
        exact aw_iret dX7_levelsAbove_38 rfl (by exact congrArg (fun z => (Sum.inl (some (hb_i z)) : hb_O)) (by rw [← h3]; unfold hb_la; first | rw [if_pos (by assumption)] | rw [if_neg (by assumption), if_pos (by assumption)])) rfl rfl (by decide) (by decide)
      · skip
        refine aw_ild3 dX7_levelsAbove_16 ?_
        refine aw_ild1 dX7_levelsAbove_17 ?_
        refine aw_icmp_ne (tg := 24) dX7_levelsAbove_18 (by decide) (by first | exact hG _ _ | assumption | (constructor <;> omega)) (by first | exact hG _ _ | assumption | (constructor <;> omega)) (fun c18 => ?_) (fun c18 => ?_)
        · skip
          refine aw_ald0 dX7_levelsAbove_24 ?_
          refine aw_getf dX7_levelsAbove_25 hbf_X7_9 rfl rfl ?_
          refine aw_ild3 dX7_levelsAbove_28 ?_
          have hv := hp v (by omega)
          refine aw_iald dX7_levelsAbove_29 rfl (by constructor <;> omega) (by decide) ?_
          refine aw_ist3 dX7_levelsAbove_30 (by decide) ?_
          refine aw_iinc4 dX7_levelsAbove_31 (by decide) ?_
          refine aw_goto (tg := 5) dX7_levelsAbove_34 (by decide) ?_
          exact ih _ _ (by omega) (by omega) (by omega) (by rw [← h3]; conv => rhs; unfold hb_la; rw [if_neg (by assumption), if_neg (by assumption)])
        · skip
          refine aw_ild4 dX7_levelsAbove_21 ?_
          exact aw_iret dX7_levelsAbove_23 rfl (by exact congrArg (fun z => (Sum.inl (some (hb_i z)) : hb_O)) (by rw [← h3]; unfold hb_la; first | rw [if_pos (by assumption)] | rw [if_neg (by assumption), if_pos (by assumption)])) rfl rfl (by decide) (by decide)
  refine aw_ild2 dX7_levelsAbove_0 ?_
  refine aw_ipu3 dX7_levelsAbove_1 (by decide) ?_
  refine aw_iconst dX7_levelsAbove_2 ?_
  refine aw_ipu4 dX7_levelsAbove_3 (by decide) ?_
  exact key 5 t 0 (by omega) (by omega) (by omega) rfl
set_option maxRecDepth 20000 in
set_option maxHeartbeats 1000000 in
theorem c_depthOf33 {l : Launch} {G : hb_G} {F : hb_F} {na : Nat} {t : Int} (ht : 0 ≤ t ∧ t < 40) (hp : hb_tr (G 34)) (hG : hb_rg G) : hb_M l yX7_depthOf cX7_depthOf 2 (some .int) 1 0 0 [hb_r 33, hb_i t] (hb_w G F na) (77 + na) (.inl (some (hb_i (hb_la (G 34) (hb_tp (G 34) 4 t) 5 0 t)))) (hb_w G F na) (77 + na) := by
  refine hb_M_in rfl rfl (by decide) rfl (Nat.le_of_ble_eq_true rfl) ?_
  intro E z0 σ0
  have h9 := hb_tp_in hp 4 t ht
  refine aw_ald0 dX7_depthOf_0 ?_
  refine aw_ald0 dX7_depthOf_1 ?_
  refine aw_ild1 dX7_depthOf_2 ?_
  refine aw_V1v dX7_depthOf_3 (c_topOf33 (by first | assumption | omega | (constructor <;> omega) | exact hG _ _) hp hG) rfl rfl hbY_X7_topOf hbm_X7_71 hbi_X7_topOf hbe_X7_X7_topOf (Nat.le_of_ble_eq_true rfl) ⟨by decide, by decide⟩ (by decide) (by decide) ?_
  refine aw_ild1 dX7_depthOf_6 ?_
  refine aw_V2v dX7_depthOf_7 (c_levelsAbove33 (by first | assumption | omega | (constructor <;> omega) | exact hG _ _) (by first | assumption | omega | (constructor <;> omega) | exact hG _ _) hp hG) rfl rfl hbY_X7_levelsAbove hbm_X7_50 hbi_X7_levelsAbove hbe_X7_X7_levelsAbove (Nat.le_of_ble_eq_true rfl) ⟨by decide, by decide⟩ (by decide) (by decide) ?_
  exact aw_iret dX7_depthOf_10 rfl (by first | rfl | exact hb_oi1 (by omega) | exact hb_oi0 (by omega)) rfl rfl (by decide) (by decide)
set_option maxRecDepth 20000 in
set_option maxHeartbeats 1000000 in
theorem c_heightOf33 {l : Launch} {G : hb_G} {F : hb_F} {na : Nat} {t : Int} (ht : hb_in t) (hp : hb_tr (G 34)) (hG : hb_rg G) : hb_M l yX7_heightOf cX7_heightOf 4 (some .int) 1 0 0 [hb_r 33, hb_i t] (hb_w G F na) (77 + na) (.inl (some (hb_i (hb_ht (fun i => hb_la (G 34) t 5 0 i) 40)))) (hb_w G F na) (77 + na) := by
  refine hb_M_in rfl rfl (by decide) rfl (Nat.le_of_ble_eq_true rfl) ?_
  intro E z0 σ0
  have hla : ∀ i, -1 ≤ hb_la (G 34) t 5 0 i ∧ hb_la (G 34) t 5 0 i ≤ 0 + (5 : Nat) := fun i => hb_la_in 5 0 i (by omega)
  have hht : ∀ n, 0 ≤ hb_ht (fun i => hb_la (G 34) t 5 0 i) n ∧ hb_ht (fun i => hb_la (G 34) t 5 0 i) n ≤ 5 := hb_ht_in (by omega) (fun i => by have := hla i; omega)
  have key : ∀ (n k : Nat), k + n = 40 → hb_W l RX7 cX7_heightOf 4 (some .int) "heightOf" [] E z0 (hb_rm 1 0 0) σ0 (77 + na) (.inl (some (hb_i (hb_ht (fun i => hb_la (G 34) t 5 0 i) 40)))) (hb_w G F na) (77 + na) 0 0 4 [hb_r 33, hb_i t, hb_i (hb_ht (fun i => hb_la (G 34) t 5 0 i) k), hb_i (k : Int)] [] (hb_w G F na) (77 + na) := by
    intro n
    induction n with
    | zero =>
      intro k h0
      refine aw_ild3 dX7_heightOf_4 ?_
      refine aw_bipush dX7_heightOf_5 (by decide) ?_
      refine aw_icmp_ge (tg := 27) dX7_heightOf_7 (by decide) (by first | exact hG _ _ | assumption | (constructor <;> omega)) (by first | exact hG _ _ | assumption | (constructor <;> omega)) (fun c7 => ?_) (fun c7 => absurd c7 (by omega))
      refine aw_ild2 dX7_heightOf_27 ?_
      exact aw_iret dX7_heightOf_28 rfl (by exact congrArg (fun z => (Sum.inl (some (hb_i z)) : hb_O)) (by rw [show k = 40 by omega])) rfl rfl (by decide) (by decide)
    | succ n ih =>
      intro k h0
      have hk1 := hla k
      have hk2 := hht k
      refine aw_ild3 dX7_heightOf_4 ?_
      refine aw_bipush dX7_heightOf_5 (by decide) ?_
      refine aw_icmp_ge (tg := 27) dX7_heightOf_7 (by decide) (by first | exact hG _ _ | assumption | (constructor <;> omega)) (by first | exact hG _ _ | assumption | (constructor <;> omega)) (fun c7 => absurd c7 (by omega)) (fun c7 => ?_)
      refine aw_ild2 dX7_heightOf_10 ?_
      refine aw_ald0 dX7_heightOf_11 ?_
      refine aw_ild1 dX7_heightOf_12 ?_
      refine aw_ild3 dX7_heightOf_13 ?_
      refine aw_V2v dX7_heightOf_14 (c_levelsAbove33 (by first | assumption | omega | (constructor <;> omega) | exact hG _ _) (by first | assumption | omega | (constructor <;> omega) | exact hG _ _) hp hG) rfl rfl hbY_X7_levelsAbove hbm_X7_50 hbi_X7_levelsAbove hbe_X7_X7_levelsAbove (Nat.le_of_ble_eq_true rfl) ⟨by decide, by decide⟩ (by decide) (by decide) ?_
      refine aw_max dX7_heightOf_17 hbm_X7_74 hbs_Lib_Math_max_name hbY_Lib_Math_max_name.2.1 hbY_Lib_Math_max_name.1 (by constructor <;> omega) (by constructor <;> omega) (by decide) (Nat.le_of_ble_eq_true rfl) (by decide) (by decide) ?_
      refine aw_ist2 dX7_heightOf_20 (by decide) ?_
      refine aw_iinc3 dX7_heightOf_21 (by decide) ?_
      refine aw_goto (tg := 4) dX7_heightOf_24 (by decide) ?_
      exact ih (k + 1) (by omega)
  refine aw_iconst dX7_heightOf_0 ?_
  refine aw_ipu2 dX7_heightOf_1 (by decide) ?_
  refine aw_iconst dX7_heightOf_2 ?_
  refine aw_ipu3 dX7_heightOf_3 (by decide) ?_
  exact key 40 0 (by omega)
set_option maxRecDepth 20000 in
set_option maxHeartbeats 1000000 in
theorem c_fits33 {l : Launch} {G : hb_G} {F : hb_F} {na : Nat} {t a p : Int} (ht : 0 ≤ t ∧ t < 40) (ha : 0 ≤ a ∧ a < 40) (hpp : 0 ≤ p ∧ p < 4) (hk : 0 ≤ G 7 a ∧ G 7 a < 12) (hG : hb_rg G) : hb_M l yX7_fits cX7_fits 4 (some .boolean) 0 0 0 [hb_r 33, hb_i t, hb_i a, hb_i p] (hb_w G F na) (77 + na) (.inl (some (hb_i (hb_b (G 2 (G 7 a * 4 + p) = G 7 t))))) (hb_w G F na) (77 + na) := by
  refine hb_M_in rfl rfl (by decide) rfl (Nat.le_of_ble_eq_true rfl) ?_
  intro E z0 σ0
  refine aw_ald0 dX7_fits_0 ?_
  refine aw_getf dX7_fits_1 hbf_X7_25 rfl rfl ?_
  refine aw_getf dX7_fits_4 hbf_X7_61 rfl rfl ?_
  refine aw_ald0 dX7_fits_7 ?_
  refine aw_getf dX7_fits_8 hbf_X7_21 rfl rfl ?_
  refine aw_getf dX7_fits_11 hbf_X7_66 rfl rfl ?_
  refine aw_ild2 dX7_fits_14 ?_
  refine aw_iald dX7_fits_15 rfl (by constructor <;> omega) (by decide) ?_
  refine aw_iconst dX7_fits_16 ?_
  refine aw_imul dX7_fits_17 ?_
  refine aw_ild3 dX7_fits_18 ?_
  refine aw_iadd dX7_fits_19 ?_
  refine aw_iald dX7_fits_20 rfl (by constructor <;> omega) (by decide) ?_
  refine aw_ald0 dX7_fits_21 ?_
  refine aw_getf dX7_fits_22 hbf_X7_21 rfl rfl ?_
  refine aw_getf dX7_fits_25 hbf_X7_66 rfl rfl ?_
  refine aw_ild1 dX7_fits_28 ?_
  refine aw_iald dX7_fits_29 rfl (by constructor <;> omega) (by decide) ?_
  refine aw_icmp_ne (tg := 37) dX7_fits_30 (by decide) (by first | exact hG _ _ | assumption | (constructor <;> omega)) (by first | exact hG _ _ | assumption | (constructor <;> omega)) (fun c30 => ?_) (fun c30 => ?_)
  · skip
    refine aw_iconst dX7_fits_37 ?_
    exact aw_zret dX7_fits_38 rfl (by first | omega | exact hb_b01 _) (by first | rfl | exact hb_oi1 (by omega) | exact hb_oi0 (by omega)) rfl rfl (by decide) (by decide)
  · skip
    refine aw_iconst dX7_fits_33 ?_
    refine aw_goto (tg := 38) dX7_fits_34 (by decide) ?_
    exact aw_zret dX7_fits_38 rfl (by first | omega | exact hb_b01 _) (by first | rfl | exact hb_oi1 (by omega) | exact hb_oi0 (by omega)) rfl rfl (by decide) (by decide)

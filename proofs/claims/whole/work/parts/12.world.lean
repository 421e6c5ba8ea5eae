def hb_st (p : Nat) (g : Int → Int) (f : Int → Option Nat) : hb_C := match p with
  | 0 => .inl (8, [hb_r 1, hb_r 6, hb_r 12, hb_r 19, hb_r 25, hb_r 32, hb_r 46])
  | 1 => .inl (2, [hb_r 2, hb_r 3])
  | 2 => .inr (.inl (0, 48, g))
  | 3 => .inr (.inr (4, 2, fun i => some (4 + i.toNat)))
  | 4 => .inr (.inl (0, 12, g))
  | 5 => .inr (.inl (0, 12, g))
  | 6 => .inl (6, [hb_r 1, hb_r 7, hb_r 8, hb_r 11, hb_i (g 4)])
  | 7 => .inr (.inl (0, 40, g))
  | 8 => .inr (.inr (4, 2, fun i => some (9 + i.toNat)))
  | 9 => .inr (.inl (0, 40, g))
  | 10 => .inr (.inl (0, 40, g))
  | 11 => .inr (.inl (0, 40, g))
  | 12 => .inl (5, [hb_r 13, hb_r 14, hb_r 18])
  | 13 => .inr (.inl (0, 16, g))
  | 14 => .inr (.inr (4, 3, fun i => some (15 + i.toNat)))
  | 15 => .inr (.inl (0, 16, g))
  | 16 => .inr (.inl (0, 16, g))
  | 17 => .inr (.inl (0, 16, g))
  | 18 => .inr (.inl (0, 16, g))
  | 19 => .inl (3, [hb_r 20, hb_r 21, hb_r 22, hb_r 23, hb_r 24])
  | 20 => .inr (.inl (0, 8, g))
  | 21 => .inr (.inl (0, 8, g))
  | 22 => .inr (.inl (0, 8, g))
  | 23 => .inr (.inl (0, 8, g))
  | 24 => .inr (.inl (0, 8, g))
  | 25 => .inl (0, [hb_r 26, hb_r 27, hb_r 28, hb_i (g 3), hb_i (g 4)])
  | 26 => .inr (.inr (3, 200, f))
  | 27 => .inr (.inr (3, 200, f))
  | 28 => .inl (7, [hb_r 6, hb_r 1, hb_r 29, hb_r 30, hb_r 31])
  | 29 => .inr (.inl (0, 40, g))
  | 30 => .inr (.inl (0, 40, g))
  | 31 => .inr (.inl (0, 160, g))
  | 32 => .inl (4, [hb_r 6, hb_r 12, hb_r 19, hb_r 25, hb_r 33, hb_r 37, hb_r 40, hb_r 44, hb_r 45, hb_i (g 9), hb_i (g 10)])
  | 33 => .inl (7, [hb_r 6, hb_r 1, hb_r 34, hb_r 35, hb_r 36])
  | 34 => .inr (.inl (0, 40, g))
  | 35 => .inr (.inl (0, 40, g))
  | 36 => .inr (.inl (0, 160, g))
  | 37 => .inr (.inr (4, 2, fun i => some (38 + i.toNat)))
  | 38 => .inr (.inl (0, 40, g))
  | 39 => .inr (.inl (0, 40, g))
  | 40 => .inr (.inr (4, 3, fun i => some (41 + i.toNat)))
  | 41 => .inr (.inl (0, 640, g))
  | 42 => .inr (.inl (0, 640, g))
  | 43 => .inr (.inl (0, 640, g))
  | 44 => .inr (.inl (0, 40, g))
  | 45 => .inr (.inl (0, 40, g))
  | 46 => .inr (.inl (0, 640, g))
  | 47 => .inl (9, [hb_i (g 0), hb_r 48, hb_r 49, hb_r 50, hb_i (g 4), hb_r 51, hb_r 52, hb_r 53, hb_r 54, hb_r 55, hb_r 56, hb_r 57, hb_r 58, hb_r 59, hb_r 60, hb_r 61, hb_r 62, hb_i (g 17), hb_i (g 18), hb_r 63, hb_r 64, hb_r 65, hb_r 66, hb_r 67, hb_r 68, hb_r 69, hb_i (g 26), hb_r 70, hb_r 71, hb_r 72, hb_r 73, hb_r 74, hb_r 75])
  | 48 => .inr (.inl (0, 48, g))
  | 49 => .inr (.inl (0, 12, g))
  | 50 => .inr (.inl (0, 12, g))
  | 51 => .inr (.inl (0, 40, g))
  | 52 => .inr (.inl (0, 40, g))
  | 53 => .inr (.inl (0, 40, g))
  | 54 => .inr (.inl (0, 40, g))
  | 55 => .inr (.inl (0, 16, g))
  | 56 => .inr (.inl (0, 48, g))
  | 57 => .inr (.inl (0, 16, g))
  | 58 => .inr (.inl (0, 8, g))
  | 59 => .inr (.inl (0, 8, g))
  | 60 => .inr (.inl (0, 8, g))
  | 61 => .inr (.inl (0, 8, g))
  | 62 => .inr (.inl (0, 8, g))
  | 63 => .inr (.inl (0, 201, g))
  | 64 => .inr (.inl (1, 201, g))
  | 65 => .inr (.inl (0, 201, g))
  | 66 => .inr (.inl (0, 201, g))
  | 67 => .inr (.inl (0, 201, g))
  | 68 => .inr (.inl (0, 201, g))
  | 69 => .inr (.inl (0, 201, g))
  | 70 => .inr (.inl (0, 201, g))
  | 71 => .inr (.inl (0, 40, g))
  | 72 => .inr (.inl (0, 40, g))
  | 73 => .inr (.inl (0, 8040, g))
  | 74 => .inr (.inl (0, 3, g))
  | 75 => .inr (.inl (0, 640, g))
  | 76 => .inr (.inl (2, 1, g))
  | _ => hb_junk
def hb_cell (p : Nat) (g : Int → Int) (f : Int → Option Nat) : hb_C := if Nat.ble 77 p = true then .inl (1, [hb_i (g 0), hb_i (g 1), hb_i (g 2), hb_i (g 3), hb_i (g 4), hb_i (g 5), hb_i (g 6), hb_i (g 7), hb_i (g 8)]) else hb_st p g f
abbrev hb_G : Type := Nat → Int → Int
abbrev hb_F : Type := Nat → Int → Option Nat
/-- THE WORLD: numbers by cell and place, references by cell and place, entries made -/
def hb_w (G : hb_G) (F : hb_F) (na : Nat) : hb_H := fun p => if (Nat.ble 77 p && !(Nat.blt p (77 + na))) = true then hb_junk else hb_cell p (G p) (F p)
def hb_u1 (G : hb_G) (p : Nat) (g : Int → Int) : hb_G := fun q => if q = p then g else G q
def hb_v1 (F : hb_F) (p : Nat) (f : Int → Option Nat) : hb_F := fun q => if q = p then f else F q
def hb_u2 (G : hb_G) (p : Nat) (i v : Int) : hb_G := hb_u1 G p (hb_uf (G p) i v)
def hb_v2 (F : hb_F) (p : Nat) (i : Int) (v : Option Nat) : hb_F := hb_v1 F p (hb_uf (F p) i v)
def hb_rg (G : hb_G) : Prop := ∀ p i, hb_in (G p i)
theorem hb_rg.u2 {G : hb_G} (h : hb_rg G) {p : Nat} {i v : Int} (hv : hb_in v) : hb_rg (hb_u2 G p i v) := by
  intro q j
  unfold hb_u2 hb_u1 hb_uf
  by_cases e : q = p
  · by_cases e2 : j = i
    · rw [if_pos e, if_pos e2]; exact hv
    · rw [if_pos e, if_neg e2]; exact h p j
  · rw [if_neg e]; exact h q j
theorem hb_u2_s {G : hb_G} {p : Nat} {i v : Int} : hb_u2 G p i v p i = v := by unfold hb_u2 hb_u1 hb_uf; rw [if_pos rfl, if_pos rfl]
theorem hb_u2_n {G : hb_G} {p q : Nat} {i v : Int} (e : q ≠ p) : hb_u2 G p i v q = G q := by unfold hb_u2 hb_u1; rw [if_neg e]
theorem hb_u2_i {G : hb_G} {p : Nat} {i j v : Int} (e : j ≠ i) : hb_u2 G p i v p j = G p j := by unfold hb_u2 hb_u1 hb_uf; rw [if_pos rfl, if_neg e]
theorem hb_w_g {G : hb_G} {F : hb_F} {na p : Nat} {g : Int → Int} {c : hb_C} (hp : (Nat.ble 77 p && !(Nat.blt p (77 + na))) = false) (hc : c = hb_cell p g (F p)) : hb_up (hb_w G F na) p c = hb_w (hb_u1 G p g) F na := by
  funext q
  by_cases e : q = p
  · subst e
    rw [hb_up_s]
    unfold hb_w hb_u1
    rw [hp, if_neg (by decide), if_pos rfl]
    exact hc
  · rw [hb_up_n e]
    unfold hb_w hb_u1
    rw [if_neg e]
theorem hb_w_f {G : hb_G} {F : hb_F} {na p : Nat} {f : Int → Option Nat} {c : hb_C} (hp : (Nat.ble 77 p && !(Nat.blt p (77 + na))) = false) (hc : c = hb_cell p (G p) f) : hb_up (hb_w G F na) p c = hb_w G (hb_v1 F p f) na := by
  funext q
  by_cases e : q = p
  · subst e
    rw [hb_up_s]
    unfold hb_w hb_v1
    rw [hp, if_neg (by decide), if_pos rfl]
    exact hc
  · rw [hb_up_n e]
    unfold hb_w hb_v1
    rw [if_neg e]
theorem hb_pe {e na : Nat} (h : e < na) : (Nat.ble 77 (77 + e) && !(Nat.blt (77 + e) (77 + na))) = false := by
  have h2 : Nat.blt (77 + e) (77 + na) = true := by unfold Nat.blt; exact Nat.ble_eq.mpr (by omega)
  rw [h2]
  simp
theorem hb_ce (e : Nat) (g : Int → Int) (f : Int → Option Nat) : hb_cell (77 + e) g f = .inl (1, [hb_i (g 0), hb_i (g 1), hb_i (g 2), hb_i (g 3), hb_i (g 4), hb_i (g 5), hb_i (g 6), hb_i (g 7), hb_i (g 8)]) := by
  unfold hb_cell
  rw [if_pos (Nat.ble_eq.mpr (by omega))]
theorem hb_we {G : hb_G} {F : hb_F} {na e : Nat} (h : e < na) : hb_w G F na (77 + e) = .inl (1, [hb_i (G (77 + e) 0), hb_i (G (77 + e) 1), hb_i (G (77 + e) 2), hb_i (G (77 + e) 3), hb_i (G (77 + e) 4), hb_i (G (77 + e) 5), hb_i (G (77 + e) 6), hb_i (G (77 + e) 7), hb_i (G (77 + e) 8)]) := by
  unfold hb_w
  rw [hb_pe h, if_neg (by decide), hb_ce]
/-- a new entry -/
theorem hb_wn {G : hb_G} {F : hb_F} {na : Nat} {g : Int → Int} {c : hb_C} (hc : c = hb_cell (77 + na) g (F (77 + na))) : hb_up (hb_w G F na) (77 + na) c = hb_w (hb_u1 G (77 + na) g) F (na + 1) := by
  funext q
  by_cases e : q = 77 + na
  · subst e
    rw [hb_up_s]
    unfold hb_w hb_u1
    rw [hb_pe (Nat.lt_succ_self na), if_neg (by decide), if_pos rfl]
    exact hc
  · rw [hb_up_n e]
    unfold hb_w hb_u1
    rw [if_neg e]
    have h9 : Nat.blt q (77 + na) = Nat.blt q (77 + (na + 1)) := by
      rw [Bool.eq_iff_iff]
      unfold Nat.blt
      rw [Nat.ble_eq, Nat.ble_eq]
      omega
    rw [h9]
section HBW
variable {l : Launch} {own : String} {cc : ByteArray} {nL : Nat} {ret : Option FieldType} {nm : String} {tb : List ExceptionTableEntry} {E : hb_E} {z0 : Heap} {R : Room} {σ0 : Nat → Nat} {N0 : Nat} {o : hb_O} {h' : hb_H} {N' : Nat} {kc ks pc : Nat} {ls st : List hb_V} {N : Nat} {G : hb_G} {F : hb_F} {na : Nat}
theorem aw_iastw {q n : Nat} {i v : Int} (hd : decode cc pc = .ok (.iastore, 1)) (hq : ∀ g, hb_cell q g (F q) = .inr (.inl (0, n, g))) (hp : (Nat.ble 77 q && !(Nat.blt q (77 + na))) = false) (hi : 0 ≤ i ∧ i < n) (hn : n ≤ 2147483647) (k : hb_W l own cc nL ret nm tb E z0 R σ0 N0 o h' N' kc ks (pc + 1) ls st (hb_w (hb_u2 G q i v) F na) N) : hb_W l own cc nL ret nm tb E z0 R σ0 N0 o h' N' kc ks pc ls (hb_i v :: hb_i i :: hb_r q :: st) (hb_w G F na) N := by
  have hq2 : hb_w G F na q = .inr (.inl (0, n, G q)) := by
    unfold hb_w
    rw [hp, if_neg (by decide)]
    exact hq _
  refine aw_iast hd hq2 hi hn ?_
  rw [hb_w_g hp (hq (hb_uf (G q) i v)).symm]
  exact k
theorem aw_zastw {q n : Nat} {i v : Int} (hd : decode cc pc = .ok (.bastore, 1)) (hq : ∀ g, hb_cell q g (F q) = .inr (.inl (1, n, g))) (hp : (Nat.ble 77 q && !(Nat.blt q (77 + na))) = false) (hi : 0 ≤ i ∧ i < n) (hn : n ≤ 2147483647) (hv : v = 0 ∨ v = 1) (k : hb_W l own cc nL ret nm tb E z0 R σ0 N0 o h' N' kc ks (pc + 1) ls st (hb_w (hb_u2 G q i v) F na) N) : hb_W l own cc nL ret nm tb E z0 R σ0 N0 o h' N' kc ks pc ls (hb_i v :: hb_i i :: hb_r q :: st) (hb_w G F na) N := by
  have hq2 : hb_w G F na q = .inr (.inl (1, n, G q)) := by
    unfold hb_w
    rw [hp, if_neg (by decide)]
    exact hq _
  refine aw_zast hd hq2 hi hn hv ?_
  rw [hb_w_g hp (hq (hb_uf (G q) i v)).symm]
  exact k
theorem aw_lastw {q n : Nat} {i v : Int} (hd : decode cc pc = .ok (.lastore, 1)) (hq : ∀ g, hb_cell q g (F q) = .inr (.inl (2, n, g))) (hp : (Nat.ble 77 q && !(Nat.blt q (77 + na))) = false) (hi : 0 ≤ i ∧ i < n) (hn : n ≤ 2147483647) (k : hb_W l own cc nL ret nm tb E z0 R σ0 N0 o h' N' kc ks (pc + 1) ls st (hb_w (hb_u2 G q i v) F na) N) : hb_W l own cc nL ret nm tb E z0 R σ0 N0 o h' N' kc ks pc ls (hb_l v :: hb_i i :: hb_r q :: st) (hb_w G F na) N := by
  have hq2 : hb_w G F na q = .inr (.inl (2, n, G q)) := by
    unfold hb_w
    rw [hp, if_neg (by decide)]
    exact hq _
  refine aw_last hd hq2 hi hn ?_
  rw [hb_w_g hp (hq (hb_uf (G q) i v)).symm]
  exact k
theorem aw_eastw {q n w : Nat} {i : Int} {fs : List hb_V} (hd : decode cc pc = .ok (.aastore, 1)) (hq : ∀ f, hb_cell q (G q) f = .inr (.inr (3, n, f))) (hp : (Nat.ble 77 q && !(Nat.blt q (77 + na))) = false) (hw : hb_w G F na w = .inl (1, fs)) (hi : 0 ≤ i ∧ i < n) (hn : n ≤ 2147483647) (k : hb_W l own cc nL ret nm tb E z0 R σ0 N0 o h' N' kc ks (pc + 1) ls st (hb_w G (hb_v2 F q i (some w)) na) N) : hb_W l own cc nL ret nm tb E z0 R σ0 N0 o h' N' kc ks pc ls (hb_r w :: hb_i i :: hb_r q :: st) (hb_w G F na) N := by
  have hq2 : hb_w G F na q = .inr (.inr (3, n, F q)) := by
    unfold hb_w
    rw [hp, if_neg (by decide)]
    exact hq _
  refine aw_east (ci := 0) hd hq2 hw hi hn ?_
  rw [hb_w_f hp (hq (hb_uf (F q) i (some w))).symm]
  exact k
theorem aw_putw {ix ci j q : Nat} {fs : List hb_V} {v : Int} (hd : decode cc pc = .ok (.putfield ix, 3)) (hf : hb_fld own ix ci j) (hs : hb_fls ci) (hw : hb_flw own ci j false .int) (hp : (Nat.ble 77 q && !(Nat.blt q (77 + na))) = false) (hc : hb_cell q (G q) (F q) = .inl (ci, fs)) (hc2 : .inl (ci, fs.set j (hb_i v)) = hb_cell q (hb_uf (G q) (j : Int) v) (F q)) (k : hb_W l own cc nL ret nm tb E z0 R σ0 N0 o h' N' kc ks (pc + 3) ls st (hb_w (hb_u2 G q (j : Int) v) F na) N) : hb_W l own cc nL ret nm tb E z0 R σ0 N0 o h' N' kc ks pc ls (hb_i v :: hb_r q :: st) (hb_w G F na) N := by
  have hq2 : hb_w G F na q = .inl (ci, fs) := by
    unfold hb_w
    rw [hp, if_neg (by decide)]
    exact hc
  refine aw_putf hd hf hs hw hq2 (fun _ => ⟨rfl, rfl⟩) (fun p h9 => by cases h9) ?_
  rw [hb_w_g hp hc2]
  exact k
end HBW
/-- a condition as a number -/
noncomputable def hb_b (P : Prop) : Int := @ite Int P (Classical.propDecidable P) 1 0
theorem hb_bt {P : Prop} (h : P) : hb_b P = 1 := by unfold hb_b; exact if_pos h
theorem hb_bf {P : Prop} (h : ¬ P) : hb_b P = 0 := by unfold hb_b; exact if_neg h
theorem hb_b01 (P : Prop) : hb_b P = 0 ∨ hb_b P = 1 := by
  rcases Classical.em P with h | h
  · exact Or.inr (hb_bt h)
  · exact Or.inl (hb_bf h)
theorem hb_bin (P : Prop) : hb_in (hb_b P) := by rcases hb_b01 P with h | h <;> rw [h] <;> decide
theorem hb_bc {P Q : Prop} (h : P ↔ Q) : hb_b P = hb_b Q := by rw [propext h]
theorem hb_oi1 {P : Prop} (h : P) : (Sum.inl (some (hb_i (hb_b P))) : hb_O) = Sum.inl (some (hb_i 1)) := by rw [hb_bt h]
theorem hb_oi0 {P : Prop} (h : ¬ P) : (Sum.inl (some (hb_i (hb_b P))) : hb_O) = Sum.inl (some (hb_i 0)) := by rw [hb_bf h]
section HBB
variable {l : Launch} {own : String} {cc : ByteArray} {nL : Nat} {ret : Option FieldType} {nm : String} {tb : List ExceptionTableEntry} {E : hb_E} {z0 : Heap} {R : Room} {σ0 : Nat → Nat} {N0 : Nat} {o : hb_O} {h' : hb_H} {N' : Nat} {kc ks pc : Nat} {ls st : List hb_V} {h : hb_H} {N : Nat}
theorem aw_ifb_eq {P : Prop} {off : Int} {tg : Nat} (hd : decode cc pc = .ok (.ifCond .eq off, 3)) (ht : (pc : Int) + off = (tg : Int)) (kt : ¬ P → hb_W l own cc nL ret nm tb E z0 R σ0 N0 o h' N' kc ks tg ls st h N) (kf : P → hb_W l own cc nL ret nm tb E z0 R σ0 N0 o h' N' kc ks (pc + 3) ls st h N) : hb_W l own cc nL ret nm tb E z0 R σ0 N0 o h' N' kc ks pc ls (hb_i (hb_b P) :: st) h N := by
  refine aw_if_eq hd ht (hb_bin P) (fun h9 => kt ?_) (fun h9 => kf ?_)
  · rcases Classical.em P with h8 | h8
    · rw [hb_bt h8] at h9; first | exact h8 | omega
    · rw [hb_bf h8] at h9; first | exact h8 | omega
  · rcases Classical.em P with h8 | h8
    · rw [hb_bt h8] at h9; first | exact h8 | omega
    · rw [hb_bf h8] at h9; first | exact h8 | omega
theorem aw_ifb_ne {P : Prop} {off : Int} {tg : Nat} (hd : decode cc pc = .ok (.ifCond .ne off, 3)) (ht : (pc : Int) + off = (tg : Int)) (kt : P → hb_W l own cc nL ret nm tb E z0 R σ0 N0 o h' N' kc ks tg ls st h N) (kf : ¬ P → hb_W l own cc nL ret nm tb E z0 R σ0 N0 o h' N' kc ks (pc + 3) ls st h N) : hb_W l own cc nL ret nm tb E z0 R σ0 N0 o h' N' kc ks pc ls (hb_i (hb_b P) :: st) h N := by
  refine aw_if_ne hd ht (hb_bin P) (fun h9 => kt ?_) (fun h9 => kf ?_)
  · rcases Classical.em P with h8 | h8
    · rw [hb_bt h8] at h9; first | exact h8 | omega
    · rw [hb_bf h8] at h9; first | exact h8 | omega
  · rcases Classical.em P with h8 | h8
    · rw [hb_bt h8] at h9; first | exact h8 | omega
    · rw [hb_bf h8] at h9; first | exact h8 | omega
theorem hb_M_in {y : MethodName} {cy : ByteArray} {ny : Nat} {ry : Option FieldType} {d mc ms : Nat} {av : List hb_V} {h2 : hb_H} {N2 : Nat} (e1 : y.cls = own) (e2 : y.name = nm) (hy : plainName y.cls = true) (hnl : av.all hb_nl = true) (hlen : av.length ≤ ny)
    (body : ∀ (E : hb_E) (z0 : Heap) (σ0 : Nat → Nat), hb_W l own cy ny ry nm [] E z0 (hb_rm d mc ms) σ0 N o h2 N2 0 0 0 av [] h N) : hb_M l y cy ny ry d mc ms av h N o h2 N2 := by
  subst e1
  subst e2
  exact hb_M_of hy (fun v hv => List.all_eq_true.mp hnl v hv) hlen body
end HBB

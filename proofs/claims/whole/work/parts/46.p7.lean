/-! bits -/
def bk_m (k : Int) : Int32 := 1 <<< (Int32.ofInt k &&& 31)
theorem bk_m_sl {k : Int} : Int32.ofInt (hb_sl 1 k) = bk_m k := by
  unfold hb_sl bk_m
  rw [Int32.ofInt_toInt]
  rfl
theorem bk_fin {j : Int} (h : 0 ≤ j ∧ j < 16) : ∃ f : Fin 16, j = ((f : Nat) : Int) := ⟨⟨j.toNat, by omega⟩, by show j = ((j.toNat : Nat) : Int); omega⟩
theorem bk_mm {j k : Int} (hj : 0 ≤ j ∧ j < 16) (hk : 0 ≤ k ∧ k < 16) : bk_m k &&& bk_m j = if j = k then bk_m j else 0 := by
  obtain ⟨a, rfl⟩ := bk_fin hj
  obtain ⟨b, rfl⟩ := bk_fin hk
  have : ∀ a b : Fin 16, bk_m ((b : Nat) : Int) &&& bk_m ((a : Nat) : Int) = if ((a : Nat) : Int) = ((b : Nat) : Int) then bk_m ((a : Nat) : Int) else 0 := by decide +kernel
  exact this a b
theorem bk_mx {j k : Int} (hj : 0 ≤ j ∧ j < 16) (hk : 0 ≤ k ∧ k < 16) : (bk_m k ^^^ (-1)) &&& bk_m j = if j = k then 0 else bk_m j := by
  obtain ⟨a, rfl⟩ := bk_fin hj
  obtain ⟨b, rfl⟩ := bk_fin hk
  have : ∀ a b : Fin 16, (bk_m ((b : Nat) : Int) ^^^ (-1)) &&& bk_m ((a : Nat) : Int) = if ((a : Nat) : Int) = ((b : Nat) : Int) then 0 else bk_m ((a : Nat) : Int) := by decide +kernel
  exact this a b
theorem bk_m0 {j : Int} (hj : 0 ≤ j ∧ j < 16) : bk_m j ≠ 0 := by
  obtain ⟨a, rfl⟩ := bk_fin hj
  have : ∀ a : Fin 16, bk_m ((a : Nat) : Int) ≠ 0 := by decide +kernel
  exact this a
theorem bk_an {x : Int32} {j : Int} : (x &&& bk_m j).toInt = 0 ↔ x &&& bk_m j = 0 := ⟨fun h => Int32.toInt_inj.mp h, fun h => by rw [h]; rfl⟩
theorem bk_an2 {x j : Int} : hb_an x (hb_sl 1 j) = 0 ↔ Int32.ofInt x &&& bk_m j = 0 := by
  unfold hb_an
  rw [bk_m_sl, bk_an]
theorem bk_or0 {a b : Int32} : a ||| b = 0 ↔ a = 0 ∧ b = 0 := by
  constructor
  · intro h
    have h1 : a.toBitVec ||| b.toBitVec = 0#32 := congrArg Int32.toBitVec h
    have h2 := BitVec.or_eq_zero_iff.mp h1
    exact ⟨Int32.toBitVec_inj.mp h2.1, Int32.toBitVec_inj.mp h2.2⟩
  · rintro ⟨rfl, rfl⟩; rfl
theorem bk_dis {a b c : Int32} : (a ||| b) &&& c = (a &&& c) ||| (b &&& c) := by
  apply Int32.toBitVec_inj.mp
  show (a.toBitVec ||| b.toBitVec) &&& c.toBitVec = (a.toBitVec &&& c.toBitVec) ||| (b.toBitVec &&& c.toBitVec)
  ext i hi
  simp [Bool.and_or_distrib_right]
theorem bk_b1 {x j k : Int} (hj : 0 ≤ j ∧ j < 16) (hk : 0 ≤ k ∧ k < 16) : hb_an (hb_or x (hb_sl 1 k)) (hb_sl 1 j) = 0 ↔ j ≠ k ∧ hb_an x (hb_sl 1 j) = 0 := by
  rw [bk_an2, bk_an2]
  unfold hb_or
  rw [Int32.ofInt_toInt, bk_m_sl, bk_dis, bk_or0, bk_mm hj hk]
  by_cases e : j = k
  · rw [if_pos e]
    exact ⟨fun h => absurd h.2 (bk_m0 hj), fun h => absurd e h.1⟩
  · rw [if_neg e]
    exact ⟨fun h => ⟨e, h.1⟩, fun h => ⟨h.2, rfl⟩⟩
theorem bk_b2 {x j k : Int} (hj : 0 ≤ j ∧ j < 16) (hk : 0 ≤ k ∧ k < 16) : hb_an (hb_an x (hb_xr (hb_sl 1 k) (-1))) (hb_sl 1 j) = 0 ↔ j = k ∨ hb_an x (hb_sl 1 j) = 0 := by
  rw [bk_an2, bk_an2]
  unfold hb_an hb_xr
  rw [Int32.ofInt_toInt, Int32.ofInt_toInt, bk_m_sl, Int32.and_assoc, show Int32.ofInt (-1) = -1 from rfl, bk_mx hj hk]
  by_cases e : j = k
  · rw [if_pos e]
    exact ⟨fun _ => Or.inl e, fun _ => Int32.and_zero⟩
  · rw [if_neg e]
    exact ⟨Or.inr, fun h => h.elim (fun h => absurd h e) id⟩
theorem bk_b0 {j : Int} : hb_an 0 (hb_sl 1 j) = 0 := by
  rw [bk_an2]
  exact Int32.zero_and
theorem bk_in_an (a b : Int) : hb_in (hb_an a b) := ⟨Int32.le_toInt _, Int.le_of_lt_add_one (Int32.toInt_lt _)⟩
theorem bk_in_or (a b : Int) : hb_in (hb_or a b) := ⟨Int32.le_toInt _, Int.le_of_lt_add_one (Int32.toInt_lt _)⟩
/-! how all stands, by the class -/
def bk_srt (w : Int) : Int := if w = 0 then 2 else if w = 1 then 0 else if w = 2 then 1 else w
def bk_obj (D G : hb_G) (e q : Nat) : Prop := G q 0 = bk_srt (D 63 e) ∧ G q 1 = D 65 e ∧ G q 2 = D 66 e ∧ G q 3 = e ∧ (D 63 e = 1 → G q 4 = D 67 e ∧ G q 5 = D 68 e) ∧ (D 63 e = 0 → G q 6 = D 67 e ∧ G q 7 = D 68 e) ∧ (3 ≤ D 63 e → G q 4 = D 67 e) ∧ (D 63 e = 4 → G q 6 = D 68 e ∧ G q 7 = D 69 e / 10001 ∧ G q 8 = D 69 e % 10001)
def bk_sl (D G : hb_G) : Prop := (∀ i, 0 ≤ i ∧ i < 48 → G 2 i = D 48 i) ∧ (∀ t, 0 ≤ t ∧ t < 40 → G 7 t = D 51 t ∧ G 9 t = D 52 t ∧ G 10 t = D 53 t ∧ G 11 t = D 54 t) ∧ (∀ k, 0 ≤ k ∧ k < 16 → G 13 k = D 55 k ∧ G 15 k = D 56 (3 * k + 0) ∧ G 16 k = D 56 (3 * k + 1) ∧ G 17 k = D 56 (3 * k + 2) ∧ G 18 k = D 57 k) ∧ (∀ o, 0 ≤ o ∧ o < 8 → G 20 o = D 58 o ∧ G 21 o = D 59 o ∧ G 22 o = D 60 o ∧ G 23 o = D 61 o ∧ G 24 o = D 62 o) ∧ (∀ k, 0 ≤ k ∧ k < 12 → G 4 k = D 49 k ∧ G 5 k = D 50 k)
def bk_kp (G H : hb_G) : Prop := ∀ p : Nat, (p < 34 ∨ p = 37 ∨ p = 40 ∨ 45 < p) → H p = G p
theorem bk_kp.rf {G : hb_G} : bk_kp G G := fun _ _ => rfl
theorem bk_kp.tr {G H K : hb_G} (h1 : bk_kp G H) (h2 : bk_kp H K) : bk_kp G K := fun p hp => (h2 p hp).trans (h1 p hp)
theorem bk_sl.kp {D G H : hb_G} (h : bk_sl D G) (hk : bk_kp G H) : bk_sl D H := by
  unfold bk_sl
  rw [hk 2 (by omega), hk 7 (by omega), hk 9 (by omega), hk 10 (by omega), hk 11 (by omega), hk 13 (by omega), hk 15 (by omega), hk 16 (by omega), hk 17 (by omega), hk 18 (by omega), hk 20 (by omega), hk 21 (by omega), hk 22 (by omega), hk 23 (by omega), hk 24 (by omega), hk 4 (by omega), hk 5 (by omega)]
  exact h
theorem bk_obj.kp {D G H : hb_G} {e o : Nat} (h : bk_obj D G e (77 + o)) (hk : bk_kp G H) : bk_obj D H e (77 + o) := by
  unfold bk_obj
  rw [hk (77 + o) (by omega)]
  exact h
theorem bk_bn_c {G H : hb_G} (h : ∀ p : Nat, p = 11 ∨ p = 38 ∨ p = 39 ∨ p = 41 ∨ p = 42 ∨ p = 43 → H p = G p) (hb : hb_bn G) : hb_bn H := by
  refine ⟨fun i hi u hu => ?_, ?_⟩
  · rw [h u (by omega)]; exact hb.1 i hi u hu
  · rw [h 38 (by omega), h 39 (by omega), h 11 (by omega)]; exact hb.2
def bk_S1 (D G : hb_G) (r : List Nat) : Prop := (∀ t, 0 ≤ t ∧ t < 40 → G 34 t = (bk_TR D r).1 t ∧ G 35 t = (bk_TR D r).2 t) ∧ bk_ch (G 34) (G 35) (G 36)
def bk_S2 (D G : hb_G) (r : List Nat) : Prop := ∀ t, 0 ≤ t ∧ t < 40 → D 51 t ≠ -1 → G 38 t = bk_fl D 0 t r ∧ G 39 t = bk_fl D 1 t r
def bk_S3 (D G : hb_G) (r : List Nat) : Prop := ∀ t k, 0 ≤ t ∧ t < 40 → 0 ≤ k ∧ k < 16 → D 51 t ≠ -1 → D 55 k ≠ -1 → G 41 (t * 16 + k) = bk_DU D 0 t k r ∧ G 42 (t * 16 + k) = bk_DU D 1 t k r ∧ G 43 (t * 16 + k) = bk_DU D 2 t k r
def bk_S4 (D G : hb_G) (r : List Nat) : Prop := ∀ t k, 0 ≤ t ∧ t < 40 → 0 ≤ k ∧ k < 16 → (hb_an (G 44 t) (hb_sl 1 k) = 0 ↔ bk_cn D t k r = 0)
def bk_S5 (D G : hb_G) (r : List Nat) : Prop := ∀ t o, 0 ≤ t ∧ t < 40 → 0 ≤ o ∧ o < 8 → (hb_an (G 45 t) (hb_sl 1 o) = 0 ↔ ¬ bk_RB D t o r)
def bk_SD (D G : hb_G) (r : List Nat) : Prop := bk_S1 D G r ∧ bk_S2 D G r ∧ bk_S3 D G r ∧ bk_S4 D G r ∧ bk_S5 D G r
theorem bk_S1_k {D G H : hb_G} {r : List Nat} {e : Nat} (h : bk_S1 D G r) (he : ¬ (D 63 e = 1 ∨ D 63 e = 2)) (h34 : H 34 = G 34) (h35 : H 35 = G 35) (h36 : H 36 = G 36) : bk_S1 D H (e :: r) := by
  unfold bk_S1
  rw [h34, h35, h36, show bk_TR D (e :: r) = bk_TR D r from bk_st_n he]
  exact h
theorem bk_S2_k {D G H : hb_G} {r : List Nat} {e : Nat} (h : bk_S2 D G r) (he : D 63 e ≠ 0) (h38 : H 38 = G 38) (h39 : H 39 = G 39) : bk_S2 D H (e :: r) := by
  intro t ht hk
  rw [h38, h39]
  have : ∀ u, bk_fl D u t (e :: r) = bk_fl D u t r := fun u => by
    conv => lhs; unfold bk_fl
    rw [if_neg (fun h => he h.1)]
  rw [this, this]
  exact h t ht hk
theorem bk_S3_k {D G H : hb_G} {r : List Nat} {e : Nat} (h : bk_S3 D G r) (he : ¬ (D 63 e = 3 ∨ D 63 e = 4)) (h41 : H 41 = G 41) (h42 : H 42 = G 42) (h43 : H 43 = G 43) : bk_S3 D H (e :: r) := by
  intro t k ht hk h1 h2
  have hn : ¬ bk_of D t k e := fun h => he h.1
  rw [h41, h42, h43, (bk_du_n hn).1, (bk_du_n hn).1, (bk_du_n hn).1]
  exact h t k ht hk h1 h2
theorem bk_S4_k {D G H : hb_G} {r : List Nat} {e : Nat} (h : bk_S4 D G r) (he : ¬ (D 63 e = 3 ∨ D 63 e = 4)) (h44 : H 44 = G 44) : bk_S4 D H (e :: r) := by
  intro t k ht hk
  have hn : ¬ bk_of D t k e := fun h => he h.1
  rw [h44, (bk_du_n (u := 0) hn).2]
  exact h t k ht hk
theorem bk_RB_c {D : hb_G} {t o : Int} {r : List Nat} {e : Nat} : bk_RB D t o (e :: r) ↔ (D 63 e = 5 ∧ D 65 e = t ∧ D 67 e = o) ∨ bk_RB D t o r := by
  unfold bk_RB
  constructor
  · rintro ⟨f, hf, h⟩
    rcases List.mem_cons.mp hf with h9 | h9
    · subst h9; exact Or.inl h
    · exact Or.inr ⟨f, h9, h⟩
  · rintro (h | ⟨f, hf, h⟩)
    · exact ⟨e, List.mem_cons_self, h⟩
    · exact ⟨f, List.mem_cons_of_mem _ hf, h⟩
theorem bk_S5_k {D G H : hb_G} {r : List Nat} {e : Nat} (h : bk_S5 D G r) (he : D 63 e ≠ 5) (h45 : H 45 = G 45) : bk_S5 D H (e :: r) := by
  intro t o ht ho
  rw [h45, bk_RB_c]
  rw [h t o ht ho]
  exact ⟨fun h9 h8 => h8.elim (fun h7 => he h7.1) h9, fun h9 h8 => h9 (Or.inr h8)⟩
theorem bk_S1_TI {D G : hb_G} {r : List Nat} (h : bk_S1 D G r) (hv : ∀ f ∈ r, bk_vd D f) (hl : bk_LG D r) : bk_eq (bk_TR D r).1 (G 34) ∧ bk_eq (bk_TR D r).2 (G 35) ∧ bk_TI D (G 34) (G 35) := by
  have h1 : bk_eq (bk_TR D r).1 (G 34) := fun t ht => (h.1 t ht).1
  have h2 : bk_eq (bk_TR D r).2 (G 35) := fun t ht => (h.1 t ht).2
  exact ⟨h1, h2, bk_TI_c h1 h2 (fun _ _ h => h) (bk_TR_TI hv hl)⟩
/-- a thing is hung -/
theorem bk_hap1 {l : Launch} {D G : hb_G} {F : hb_F} {na : Nat} {r : List Nat} {e o : Nat} (hs : bk_sb D) (hsl : bk_sl D G) (hve : bk_vd D e) (hvr : ∀ f ∈ r, bk_vd D f) (hLG : bk_LG D (e :: r)) (hob : bk_obj D G e (77 + o)) (ho : o < na) (hSD : bk_SD D G r) (hG : hb_rg G) (hbn : hb_bn G) (e1 : D 63 e = 1) : ∃ H, hb_M l yX4_happen cX4_happen 2 none 3 0 0 [hb_r 32, hb_r (77 + o)] (hb_w G F na) (77 + na) (.inl none) (hb_w H F na) (77 + na) ∧ bk_SD D H (e :: r) ∧ bk_kp G H ∧ hb_rg H ∧ hb_bn H := by
  obtain ⟨S1, S2, S3, S4, S5⟩ := hSD
  obtain ⟨q1, q2, hTI⟩ := bk_S1_TI S1 hvr hLG.2
  obtain ⟨o0, o1, o2, o3, o4, o5, o6, o7⟩ := hob
  obtain ⟨v1, v2, v3, v4, v5, v6, v7⟩ := hve
  have o4 := o4 e1
  have v6 := v6 e1
  have hmy := hLG.1.1 e1
  have hTR := (bk_TR_TI hvr hLG.2).1
  have hkt := hsl.2.1 _ v3.1
  have hka := hsl.2.1 _ v6.1.1
  have hba := (hs.2.2.1 _ v6.1.1).1
  have hmy2 : bk_my D (G 34) (G 35) (D 65 e) (D 67 e) (D 68 e) := (bk_my_c (G := D) q1 q2 rfl rfl hTR v3.1 v6.1.1).mpr hmy
  have h48 := hsl.1 (D 51 (D 67 e) * 4 + D 68 e) (by omega)
  have hok : hb_ok G (G 34) (G 36) (D 65 e) (D 67 e) (D 68 e) := (bk_ok_m hTI S1.2 v3.1 v6.1.1 v6.2 (by rw [hka.1, h48, Int.mul_comm]) hkt.1.symm).mpr hmy2
  rw [← o1, ← o4.1, ← o4.2] at hok
  have hM := c_hangY33 (l := l) (F := F) ho (by rw [o1]; exact v3.1) (by rw [o4.1]; exact v6.1.1) (by rw [o4.2]; exact v6.2) (by rw [o4.1, hka.1]; omega) hok hTI.1 hG
  refine ⟨_, c_happen0 ho (by rw [o0, e1]; rfl) hM, ⟨?_, bk_S2_k S2 (by omega) rfl rfl, bk_S3_k S3 (by omega) rfl rfl rfl, bk_S4_k S4 (by omega) rfl, bk_S5_k S5 (by omega) rfl⟩, ?_, ?_, bk_bn_c (fun p hp => ?_) hbn⟩
  · rw [o1, o4.1, o4.2]
    refine ⟨fun t ht => ?_, ?_⟩
    · show hb_uf (G 34) (D 65 e) (D 67 e) t = (bk_st D (bk_TR D r) e).1 t ∧ hb_uf (G 35) (D 65 e) (D 68 e) t = (bk_st D (bk_TR D r) e).2 t
      unfold bk_st
      rw [if_pos e1]
      unfold hb_uf
      have := S1.1 t ht
      constructor
      · show _ = if t = D 65 e then D 67 e else (bk_TR D r).1 t
        rw [this.1]
      · show _ = if t = D 65 e then D 68 e else (bk_TR D r).2 t
        rw [this.2]
    · exact bk_ch_pt S1.2 v3.1 v6.1.1 v6.2 hmy2.1
  · intro p hp
    unfold hb_pt
    rw [hb_u2_n (by omega), hb_u2_n (by omega), hb_u2_n (by omega)]
  · unfold hb_pt
    exact ((hG.u2 (hG _ _)).u2 (hG _ _)).u2 (hG _ _)
  · unfold hb_pt
    rw [hb_u2_n (by omega), hb_u2_n (by omega), hb_u2_n (by omega)]
theorem bk_hap2 {l : Launch} {D G : hb_G} {F : hb_F} {na : Nat} {r : List Nat} {e o : Nat} (hs : bk_sb D) (hsl : bk_sl D G) (hve : bk_vd D e) (hvr : ∀ f ∈ r, bk_vd D f) (hLG : bk_LG D (e :: r)) (hob : bk_obj D G e (77 + o)) (ho : o < na) (hSD : bk_SD D G r) (hG : hb_rg G) (hbn : hb_bn G) (e2 : D 63 e = 2) : ∃ H, hb_M l yX4_happen cX4_happen 2 none 3 0 0 [hb_r 32, hb_r (77 + o)] (hb_w G F na) (77 + na) (.inl none) (hb_w H F na) (77 + na) ∧ bk_SD D H (e :: r) ∧ bk_kp G H ∧ hb_rg H ∧ hb_bn H := by
  obtain ⟨S1, S2, S3, S4, S5⟩ := hSD
  obtain ⟨q1, q2, hTI⟩ := bk_S1_TI S1 hvr hLG.2
  obtain ⟨o0, o1, o2, o3, o4, o5, o6, o7⟩ := hob
  obtain ⟨v1, v2, v3, v4, v5, v6, v7⟩ := hve
  have hmy := hLG.1.2 e2
  have hne : G 34 (D 65 e) ≠ -1 := by rw [q1 _ v3.1]; exact hmy
  have hM := c_unhangY33 (l := l) (F := F) (na := na) (t := G (77 + o) 1) (by rw [o1]; exact v3.1) (by rw [o1]; exact hne) (by rw [o1]; exact (hTI.2.2.1 _ v3.1 hne).1) hTI.1 hG
  refine ⟨_, c_happen1 ho (by rw [o0, e2]; rfl) hM, ⟨?_, bk_S2_k S2 (by omega) rfl rfl, bk_S3_k S3 (by omega) rfl rfl rfl, bk_S4_k S4 (by omega) rfl, bk_S5_k S5 (by omega) rfl⟩, ?_, ?_, bk_bn_c (fun p hp => ?_) hbn⟩
  · rw [o1]
    refine ⟨fun t ht => ?_, ?_⟩
    · show hb_uf (G 34) (D 65 e) (-1) t = (bk_st D (bk_TR D r) e).1 t ∧ hb_uf (G 35) (D 65 e) (-1) t = (bk_st D (bk_TR D r) e).2 t
      unfold bk_st
      rw [if_neg (by omega), if_pos e2]
      unfold hb_uf
      have := S1.1 t ht
      constructor
      · show _ = if t = D 65 e then -1 else (bk_TR D r).1 t
        rw [this.1]
      · show _ = if t = D 65 e then -1 else (bk_TR D r).2 t
        rw [this.2]
    · exact bk_ch_tk hTI S1.2 v3.1 hne
  · intro p hp
    unfold hb_tk
    rw [hb_u2_n (by omega), hb_u2_n (by omega), hb_u2_n (by omega)]
  · unfold hb_tk
    exact ((hG.u2 (by decide)).u2 (by decide)).u2 (by decide)
  · unfold hb_tk
    rw [hb_u2_n (by omega), hb_u2_n (by omega), hb_u2_n (by omega)]
/-! flights -/
theorem bk_fy {G : hb_G} {q : Nat} (hq : q ≠ 38 ∧ q ≠ 39) : ∀ (k : Nat), (∀ p : Nat, p ≠ 38 → p ≠ 39 → hb_fy G q k p = G p) ∧ ∀ t : Int, (hb_fy G q k 38 t = if (0 ≤ t ∧ t < k) ∧ hb_tp (G 34) 4 t = G q 1 then G 38 t + G q 6 else G 38 t) ∧ (hb_fy G q k 39 t = if (0 ≤ t ∧ t < k) ∧ hb_tp (G 34) 4 t = G q 1 then G 39 t + G q 7 else G 39 t)
  | 0 => ⟨fun p _ _ => rfl, fun t => ⟨by rw [if_neg (fun h => by omega)]; rfl, by rw [if_neg (fun h => by omega)]; rfl⟩⟩
  | k + 1 => by
    obtain ⟨h1, h2⟩ := bk_fy (G := G) (q := q) hq k
    unfold hb_fy
    rw [h1 34 (by decide) (by decide), h1 q hq.1 hq.2]
    by_cases e : hb_tp (G 34) 4 k = G q 1
    · rw [if_pos e]
      refine ⟨fun p hp1 hp2 => ?_, fun t => ?_⟩
      · rw [hb_u2_n hp2, hb_u2_n hp1]; exact h1 p hp1 hp2
      · by_cases et : t = k
        · subst et
          constructor
          · rw [hb_u2_n (by decide), hb_u2_s, (h2 k).1, if_neg (fun h => by omega), if_pos ⟨by omega, e⟩]
          · rw [hb_u2_s, (h2 k).2, if_neg (fun h => by omega), if_pos ⟨by omega, e⟩]
        · constructor
          · rw [hb_u2_n (by decide), hb_u2_i et, (h2 t).1]
            by_cases e5 : (0 ≤ t ∧ t < (k : Int)) ∧ hb_tp (G 34) 4 t = G q 1
            · rw [if_pos e5, if_pos ⟨by omega, e5.2⟩]
            · rw [if_neg e5, if_neg (fun h => e5 ⟨by omega, h.2⟩)]
          · rw [hb_u2_i et, hb_u2_n (by decide), (h2 t).2]
            by_cases e5 : (0 ≤ t ∧ t < (k : Int)) ∧ hb_tp (G 34) 4 t = G q 1
            · rw [if_pos e5, if_pos ⟨by omega, e5.2⟩]
            · rw [if_neg e5, if_neg (fun h => e5 ⟨by omega, h.2⟩)]
    · rw [if_neg e]
      refine ⟨h1, fun t => ?_⟩
      have hne : t = k → ¬ hb_tp (G 34) 4 t = G q 1 := fun h => by rw [h]; exact e
      rw [(h2 t).1, (h2 t).2]
      by_cases e5 : (0 ≤ t ∧ t < (k : Int)) ∧ hb_tp (G 34) 4 t = G q 1
      · rw [if_pos e5, if_pos e5, if_pos ⟨by omega, e5.2⟩, if_pos ⟨by omega, e5.2⟩]; exact ⟨rfl, rfl⟩
      · have e6 : ¬ ((0 ≤ t ∧ t < ((k + 1 : Nat) : Int)) ∧ hb_tp (G 34) 4 t = G q 1) := fun h => by
          by_cases e7 : t = k
          · exact hne e7 h.2
          · exact e5 ⟨by omega, h.2⟩
        rw [if_neg e5, if_neg e5, if_neg e6, if_neg e6]; exact ⟨rfl, rfl⟩
theorem bk_hap0 {l : Launch} {D G : hb_G} {F : hb_F} {na : Nat} {r : List Nat} {e o : Nat} (hs : bk_sb D) (hve : bk_vd D e) (hvr : ∀ f ∈ r, bk_vd D f) (hlen : r.length < 200) (hLG : bk_LG D (e :: r)) (hob : bk_obj D G e (77 + o)) (ho : o < na) (hM : ∀ t, 0 ≤ t ∧ t < 40 → (D 73 (40 * e + t) = D 65 e ↔ hb_tp (bk_TR D r).1 4 t = D 65 e)) (hSD : bk_SD D G r) (hG : hb_rg G) (hbn : hb_bn G) (e0 : D 63 e = 0) : ∃ H, hb_M l yX4_happen cX4_happen 2 none 3 0 0 [hb_r 32, hb_r (77 + o)] (hb_w G F na) (77 + na) (.inl none) (hb_w H F na) (77 + na) ∧ bk_SD D H (e :: r) ∧ bk_kp G H ∧ hb_rg H ∧ hb_bn H := by
  obtain ⟨S1, S2, S3, S4, S5⟩ := hSD
  obtain ⟨q1, q2, hTI⟩ := bk_S1_TI S1 hvr hLG.2
  obtain ⟨o0, o1, o2, o3, o4, o5, o6, o7⟩ := hob
  have hve9 := hve
  obtain ⟨v1, v2, v3, v4, v5, v6, v7⟩ := hve
  have v5 := v5 e0
  have o5 := o5 e0
  have hTR := (bk_TR_TI hvr hLG.2).1
  have hf := bk_fy (G := G) (q := 77 + o) ⟨by omega, by omega⟩
  have hhit : ∀ t, 0 ≤ t ∧ t < 40 → (hb_tp (G 34) 4 t = G (77 + o) 1 ↔ D 73 (40 * e + t) = D 65 e) := fun t ht => by
    rw [hM t ht, o1, bk_tp_c q1 hTR ht]
  have hth : ∀ t, 0 ≤ t ∧ t < 40 → hb_tp (G 34) 4 t = G (77 + o) 1 → D 51 t ≠ -1 := fun t ht h => by
    by_cases e5 : G 34 t = -1
    · have : hb_tp (G 34) 4 t = t := by unfold hb_tp; rw [if_pos e5]
      rw [this, o1] at h
      rw [h]; exact v3.2
    · exact (hTI.2.2.1 t ht e5).2
  have hrg : ∀ k : Nat, k ≤ 40 → hb_rg (hb_fy G (77 + o) k) := fun k hk p i => by
    by_cases p8 : p = 38
    · rw [p8, ((hf k).2 i).1]
      split
      · rename_i h
        have := hbn.2 i (by omega)
        rw [o5.1]; constructor <;> omega
      · exact hG _ _
    · by_cases p9 : p = 39
      · rw [p9, ((hf k).2 i).2]
        split
        · rename_i h
          have := hbn.2 i (by omega)
          rw [o5.2]; constructor <;> omega
        · exact hG _ _
      · rw [(hf k).1 p p8 p9]; exact hG _ _
  have hM := c_fly (l := l) (F := F) ho (G := G) hrg (fun k hk => by rw [(hf k).1 34 (by decide) (by decide)]; exact hTI.1)
  have hr := fun p h1 h2 => (hf 40).1 p h1 h2
  have hS2 : bk_S2 D (hb_fy G (77 + o) 40) (e :: r) := by
    intro t ht hk
    obtain ⟨f1, f2⟩ := (hf 40).2 t
    have s2 := S2 t ht hk
    have y : ∀ u, D 73 (40 * e + t) = D 65 e → bk_fl D u t (e :: r) = bk_fl D u t r + (if u = 0 then D 67 e else D 68 e) := fun u h => if_pos ⟨e0, h⟩
    have n : ∀ u, ¬ D 73 (40 * e + t) = D 65 e → bk_fl D u t (e :: r) = bk_fl D u t r := fun u h => if_neg (fun h9 => h h9.2)
    by_cases e5 : hb_tp (G 34) 4 t = G (77 + o) 1
    · have h5 := (hhit t ht).mp e5
      rw [if_pos ⟨ht, e5⟩] at f1 f2
      rw [f1, f2, y 0 h5, y 1 h5, s2.1, s2.2, o5.1, o5.2]
      exact ⟨rfl, rfl⟩
    · have h5 := fun h => e5 ((hhit t ht).mpr h)
      rw [if_neg (fun h => e5 h.2)] at f1 f2
      rw [f1, f2, n 0 h5, n 1 h5]
      exact s2
  refine ⟨_, c_happen2 ho (by rw [o0, e0]; rfl) hM, ⟨bk_S1_k S1 (by omega) (hr 34 (by decide) (by decide)) (hr 35 (by decide) (by decide)) (hr 36 (by decide) (by decide)), hS2, bk_S3_k S3 (by omega) (hr 41 (by decide) (by decide)) (hr 42 (by decide) (by decide)) (hr 43 (by decide) (by decide)), bk_S4_k S4 (by omega) (hr 44 (by decide) (by decide)), bk_S5_k S5 (by omega) (hr 45 (by decide) (by decide))⟩, fun p hp => hr p (by omega) (by omega), hrg 40 (Nat.le_refl _), ⟨fun i hi u hu => ?_, fun t ht => ?_⟩⟩
  · rw [hr u (by omega) (by omega)]; exact hbn.1 i hi u hu
  · rw [hr 11 (by decide) (by decide)]
    refine ⟨?_, ?_, (hbn.2 t ht).2.2⟩
    · by_cases hk : D 51 t = -1
      · rw [((hf 40).2 t).1, if_neg (fun h => hth t ht h.2 hk)]; exact (hbn.2 t ht).1
      · rw [(hS2 t ht hk).1]
        have := bk_fl_b hs (u := 0) ht (r := e :: r) (fun f hf => (List.mem_cons.mp hf).elim (fun h => h ▸ hve9) (hvr f))
        rw [List.length_cons] at this
        constructor <;> omega
    · by_cases hk : D 51 t = -1
      · rw [((hf 40).2 t).2, if_neg (fun h => hth t ht h.2 hk)]; exact (hbn.2 t ht).2.1
      · rw [(hS2 t ht hk).2]
        have := bk_fl_b hs (u := 1) ht (r := e :: r) (fun f hf => (List.mem_cons.mp hf).elim (fun h => h ▸ hve9) (hvr f))
        rw [List.length_cons] at this
        constructor <;> omega
/-! rebuilding -/
theorem bk_hap5 {l : Launch} {D G : hb_G} {F : hb_F} {na : Nat} {r : List Nat} {e o : Nat} (hve : bk_vd D e) (hob : bk_obj D G e (77 + o)) (ho : o < na) (hSD : bk_SD D G r) (hG : hb_rg G) (hbn : hb_bn G) (e5 : D 63 e = 5) : ∃ H, hb_M l yX4_happen cX4_happen 2 none 3 0 0 [hb_r 32, hb_r (77 + o)] (hb_w G F na) (77 + na) (.inl none) (hb_w H F na) (77 + na) ∧ bk_SD D H (e :: r) ∧ bk_kp G H ∧ hb_rg H ∧ hb_bn H := by
  obtain ⟨S1, S2, S3, S4, S5⟩ := hSD
  obtain ⟨o0, o1, o2, o3, o4, o5, o6, o7⟩ := hob
  obtain ⟨v1, v2, v3, v4, v5, v6, v7, v8, v9⟩ := hve
  have v9 := v9 e5
  have o6 := o6 (by omega)
  refine ⟨_, c_happen5 (l := l) (F := F) ho (by rw [o0, e5]; rfl) (by rw [o1]; exact v3.1), ⟨bk_S1_k S1 (by omega) rfl rfl rfl, bk_S2_k S2 (by omega) rfl rfl, bk_S3_k S3 (by omega) rfl rfl rfl, bk_S4_k S4 (by omega) rfl, ?_⟩, ?_, ?_, bk_bn_c (fun p hp => ?_) hbn⟩
  · intro t ot ht hot
    rw [bk_RB_c]
    unfold hb_rb
    rw [o1, o6]
    by_cases et : t = D 65 e
    · rw [et, hb_u2_s, bk_b1 (by omega) (by omega), S5 (D 65 e) ot v3.1 hot]
      constructor
      · rintro ⟨h1, h2⟩ (h3 | h3)
        · exact h1 h3.2.2.symm
        · exact h2 h3
      · intro h
        exact ⟨fun h9 => h (Or.inl ⟨e5, rfl, h9.symm⟩), fun h9 => h (Or.inr h9)⟩
    · rw [hb_u2_i et, S5 t ot ht hot]
      exact ⟨fun h h9 => h9.elim (fun h8 => et h8.2.1.symm) h, fun h h9 => h (Or.inr h9)⟩
  · intro p hp
    unfold hb_rb
    rw [hb_u2_n (by omega)]
  · unfold hb_rb
    exact hG.u2 (bk_in_or _ _)
  · unfold hb_rb
    rw [hb_u2_n (by omega)]

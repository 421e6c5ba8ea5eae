/-! doing -/
theorem bk_d1_b {c du iv gr : Int} (h : -30000 ≤ c ∧ c ≤ 100000000) (h2 : -30000 ≤ du ∧ du ≤ 100000000) (h3 : 0 ≤ iv ∧ iv ≤ 100000) : hb_in (hb_d1 c du iv gr) := by
  unfold hb_d1
  split <;> constructor <;> omega
theorem bk_gr_b {iv w : Int} (h : 0 ≤ iv ∧ iv ≤ 100000) (h2 : 0 ≤ w ∧ w ≤ 500) : hb_in (iv * w / 1000) := by
  have h3 : 0 ≤ iv * w := Int.mul_nonneg h.1 h2.1
  have h4 : iv * w ≤ 100000 * 500 := by
    have a1 : iv * w ≤ 100000 * w := Int.mul_le_mul_of_nonneg_right h.2 h2.1
    have a2 : 100000 * w ≤ 100000 * 500 := Int.mul_le_mul_of_nonneg_left h2.2 (by omega)
    omega
  constructor <;> omega
theorem bk_hap3 {l : Launch} {D G : hb_G} {F : hb_F} {na : Nat} {r : List Nat} {e o : Nat} (hs : bk_sb D) (hsl : bk_sl D G) (hve : bk_vd D e) (hvr : ∀ f ∈ r, bk_vd D f) (hlen : r.length < 200) (hob : bk_obj D G e (77 + o)) (ho : o < na) (hSD : bk_SD D G r) (hG : hb_rg G) (hbn : hb_bn G) (e3 : D 63 e = 3) : ∃ H, hb_M l yX4_happen cX4_happen 2 none 3 0 0 [hb_r 32, hb_r (77 + o)] (hb_w G F na) (77 + na) (.inl none) (hb_w H F na) (77 + na) ∧ bk_SD D H (e :: r) ∧ bk_kp G H ∧ hb_rg H ∧ hb_bn H := by
  obtain ⟨S1, S2, S3, S4, S5⟩ := hSD
  obtain ⟨o0, o1, o2, o3, o4, o5, o6, o7⟩ := hob
  have hve9 := hve
  obtain ⟨v1, v2, v3, v4, v5, v6, v7, v8, v9⟩ := hve
  have v7 := v7 (Or.inl e3)
  have o6 := o6 (by omega)
  have hkt := hsl.2.1 _ v3.1
  have hkk := hsl.2.2.1 _ v7.1
  have hiv := (hs.2.2.2.1 _ v7.1).2.1
  have htl := (hs.2.2.2.1 _ v7.1).2.2
  have s2 := S2 _ v3.1 v3.2
  have s3 := S3 _ _ v3.1 v7.1 v3.2 v7.2
  have hd := hs.2.2.1 _ v3.1
  have hfb := fun u => bk_fl_b hs (u := u) v3.1 hvr
  have hdb := fun (u : Int) (hu : 0 ≤ u ∧ u < 3) => bk_DU_b hs hu v3.1 v7.1 hvr
  have f0 := hfb 0; have f1 := hfb 1
  have d0 := hdb 0 (by decide); have d1 := hdb 1 (by decide); have d2 := hdb 2 (by decide)
  have i0 := hiv 0 (by decide); have i1 := hiv 1 (by decide); have i2 := hiv 2 (by decide)
  have hi : 0 ≤ D 65 e * 16 + D 67 e ∧ D 65 e * 16 + D 67 e < 640 := by omega
  -- the rows
  let V0 : Int := hb_d1 (G 38 (D 65 e)) (G 41 (D 65 e * 16 + D 67 e)) (G 15 (D 67 e)) (G 15 (D 67 e) * G 18 (D 67 e) / 1000)
  let V1 : Int := hb_d1 (G 39 (D 65 e)) (G 42 (D 65 e * 16 + D 67 e)) (G 16 (D 67 e)) (G 16 (D 67 e) * G 18 (D 67 e) / 1000)
  let V2 : Int := hb_d1 (D 66 e / 100 - G 11 (D 65 e)) (G 43 (D 65 e * 16 + D 67 e)) (G 17 (D 67 e)) (G 17 (D 67 e) * G 18 (D 67 e) / 1000)
  have X0 : hb_du G (77 + o) (G (77 + o) 4) (G (77 + o) 1 * 16 + G (77 + o) 4) 0 = hb_u2 G 41 (D 65 e * 16 + D 67 e) V0 := by
    unfold hb_du
    rw [o1, o6, o2]
    rfl
  have n77 : ∀ p : Nat, p < 77 → (77 + o : Nat) ≠ p := fun p hp => by omega
  have X1 : hb_du (hb_u2 G 41 (D 65 e * 16 + D 67 e) V0) (77 + o) (G (77 + o) 4) (G (77 + o) 1 * 16 + G (77 + o) 4) 1 = hb_u2 (hb_u2 G 41 (D 65 e * 16 + D 67 e) V0) 42 (D 65 e * 16 + D 67 e) V1 := by
    unfold hb_du
    rw [hb_u2_n (n77 41 (by omega)), o1, o6, o2]
    rfl
  have X2 : hb_du (hb_u2 (hb_u2 G 41 (D 65 e * 16 + D 67 e) V0) 42 (D 65 e * 16 + D 67 e) V1) (77 + o) (G (77 + o) 4) (G (77 + o) 1 * 16 + G (77 + o) 4) 2 = hb_u2 (hb_u2 (hb_u2 G 41 (D 65 e * 16 + D 67 e) V0) 42 (D 65 e * 16 + D 67 e) V1) 43 (D 65 e * 16 + D 67 e) V2 := by
    unfold hb_du
    rw [hb_u2_n (n77 42 (by omega)), hb_u2_n (n77 41 (by omega)), o1, o6, o2]
    rfl
  have c0 : -30000 ≤ G 38 (D 65 e) ∧ G 38 (D 65 e) ≤ 100000000 := by rw [s2.1]; omega
  have c1 : -30000 ≤ G 39 (D 65 e) ∧ G 39 (D 65 e) ≤ 100000000 := by rw [s2.2]; omega
  have c2 : -30000 ≤ D 66 e / 100 - G 11 (D 65 e) ∧ D 66 e / 100 - G 11 (D 65 e) ≤ 100000000 := by rw [hkt.2.2.2]; omega
  have g0 : -30000 ≤ G 41 (D 65 e * 16 + D 67 e) ∧ G 41 (D 65 e * 16 + D 67 e) ≤ 100000000 := by rw [s3.1]; omega
  have g1 : -30000 ≤ G 42 (D 65 e * 16 + D 67 e) ∧ G 42 (D 65 e * 16 + D 67 e) ≤ 100000000 := by rw [s3.2.1]; omega
  have g2 : -30000 ≤ G 43 (D 65 e * 16 + D 67 e) ∧ G 43 (D 65 e * 16 + D 67 e) ≤ 100000000 := by rw [s3.2.2]; omega
  have j0 : 0 ≤ G 15 (D 67 e) ∧ G 15 (D 67 e) ≤ 100000 := by rw [hkk.2.1]; exact i0
  have j1 : 0 ≤ G 16 (D 67 e) ∧ G 16 (D 67 e) ≤ 100000 := by rw [hkk.2.2.1]; exact i1
  have j2 : 0 ≤ G 17 (D 67 e) ∧ G 17 (D 67 e) ≤ 100000 := by rw [hkk.2.2.2.1]; exact i2
  have w0 : 0 ≤ G 18 (D 67 e) ∧ G 18 (D 67 e) ≤ 500 := by rw [hkk.2.2.2.2]; exact htl
  have iV0 : hb_in V0 := bk_d1_b c0 g0 j0
  have iV1 : hb_in V1 := bk_d1_b c1 g1 j1
  have iV2 : hb_in V2 := bk_d1_b c2 g2 j2
  have hM := c_doTask (l := l) (F := F) (G := G) ho (by rw [o1]; exact v3.1) (by rw [o6]; exact v7.1) (by rw [o1, o6]; exact hi) (by rw [o2]; exact v4.1) hG (by rw [X0]; exact hG.u2 iV0) (by rw [X0, X1]; exact (hG.u2 iV0).u2 iV1)
    (by
      rw [o1, o6, o2]
      refine ⟨?_, bk_gr_b j0 w0, j0, w0⟩
      show hb_in (G 38 (D 65 e) - _)
      constructor <;> omega)
    (by
      rw [X0, hb_u2_n (n77 41 (by omega)), o1, o6, o2]
      refine ⟨?_, bk_gr_b j1 w0, j1, w0⟩
      show hb_in (G 39 (D 65 e) - G 42 (D 65 e * 16 + D 67 e))
      constructor <;> omega)
    (by
      rw [X0, X1, hb_u2_n (n77 42 (by omega)), hb_u2_n (n77 41 (by omega)), o1, o6, o2]
      refine ⟨?_, bk_gr_b j2 w0, j2, w0⟩
      show hb_in (D 66 e / 100 - G 11 (D 65 e) - G 43 (D 65 e * 16 + D 67 e))
      constructor <;> omega)
  have XD : hb_dt G (77 + o) = hb_u2 (hb_u2 (hb_u2 (hb_u2 G 41 (D 65 e * 16 + D 67 e) V0) 42 (D 65 e * 16 + D 67 e) V1) 43 (D 65 e * 16 + D 67 e) V2) 44 (D 65 e) (hb_an (G 44 (D 65 e)) (hb_xr (hb_sl 1 (D 67 e)) (-1))) := by
    unfold hb_dt hb_d3
    rw [X0, X1, X2, o1, o6]
  rw [XD] at hM
  have hS3 : bk_S3 D (hb_u2 (hb_u2 (hb_u2 (hb_u2 G 41 (D 65 e * 16 + D 67 e) V0) 42 (D 65 e * 16 + D 67 e) V1) 43 (D 65 e * 16 + D 67 e) V2) 44 (D 65 e) (hb_an (G 44 (D 65 e)) (hb_xr (hb_sl 1 (D 67 e)) (-1)))) (e :: r) := by
    intro t k ht hk h1 h2
    show hb_uf (G 41) (D 65 e * 16 + D 67 e) V0 (t * 16 + k) = _ ∧ hb_uf (G 42) (D 65 e * 16 + D 67 e) V1 (t * 16 + k) = _ ∧ hb_uf (G 43) (D 65 e * 16 + D 67 e) V2 (t * 16 + k) = _
    by_cases et : t = D 65 e ∧ k = D 67 e
    · obtain ⟨rfl, rfl⟩ := et
      have hc : D 63 e = 3 ∧ D 65 e = D 65 e ∧ D 67 e = D 67 e := ⟨e3, rfl, rfl⟩
      have y : ∀ u, bk_DU D u (D 65 e) (D 67 e) (e :: r) = hb_d1 (bk_ct D u (D 65 e) e r) (bk_DU D u (D 65 e) (D 67 e) r) (D 56 (3 * D 67 e + u)) (D 56 (3 * D 67 e + u) * D 57 (D 67 e) / 1000) := fun u => if_pos hc
      rw [y 0, y 1, y 2]
      unfold hb_uf
      rw [if_pos rfl, if_pos rfl, if_pos rfl]
      refine ⟨?_, ?_, ?_⟩
      · show hb_d1 _ _ _ _ = _
        rw [s2.1, s3.1, hkk.2.1, hkk.2.2.2.2]; rfl
      · show hb_d1 _ _ _ _ = _
        rw [s2.2, s3.2.1, hkk.2.2.1, hkk.2.2.2.2]; rfl
      · show hb_d1 _ _ _ _ = _
        rw [hkt.2.2.2, s3.2.2, hkk.2.2.2.1, hkk.2.2.2.2]; rfl
    · have hn : ¬ bk_of D t k e := fun h => et ⟨h.2.1.symm, h.2.2.symm⟩
      have hne : t * 16 + k ≠ D 65 e * 16 + D 67 e := fun h => et ⟨by omega, by omega⟩
      rw [(bk_du_n hn).1, (bk_du_n hn).1, (bk_du_n hn).1]
      unfold hb_uf
      rw [if_neg hne, if_neg hne, if_neg hne]
      exact S3 t k ht hk h1 h2
  have hrH : hb_rg (hb_u2 (hb_u2 (hb_u2 (hb_u2 G 41 (D 65 e * 16 + D 67 e) V0) 42 (D 65 e * 16 + D 67 e) V1) 43 (D 65 e * 16 + D 67 e) V2) 44 (D 65 e) (hb_an (G 44 (D 65 e)) (hb_xr (hb_sl 1 (D 67 e)) (-1)))) := (((hG.u2 iV0).u2 iV1).u2 iV2).u2 (bk_in_an _ _)
  refine ⟨_, c_happen3 ho (by rw [o0, e3]; rfl) hM, ⟨bk_S1_k S1 (by omega) rfl rfl rfl, bk_S2_k S2 (by omega) rfl rfl, hS3, ?_, bk_S5_k S5 (by omega) rfl⟩, ?_, hrH, ⟨fun i hi u hu => ?_, hbn.2⟩⟩
  · intro t k ht hk
    show hb_an (hb_uf (G 44) (D 65 e) _ t) _ = 0 ↔ _
    unfold hb_uf
    by_cases et : t = D 65 e
    · rw [if_pos et, bk_b2 hk v7.1]
      by_cases ek : k = D 67 e
      · have : bk_cn D t k (e :: r) = 0 := by
          unfold bk_cn
          rw [if_neg (fun h => by omega), if_pos ⟨e3, et.symm, ek.symm⟩]
        exact ⟨fun _ => this, fun _ => Or.inl ek⟩
      · have hn : ¬ bk_of D t k e := fun h => ek h.2.2.symm
        rw [(bk_du_n (u := 0) hn).2, ← S4 t k ht hk, et]
        exact ⟨fun h => h.elim (fun h => absurd h ek) id, Or.inr⟩
    · have hn : ¬ bk_of D t k e := fun h => et h.2.1.symm
      rw [if_neg et, (bk_du_n (u := 0) hn).2]
      exact S4 t k ht hk
  · intro p hp
    rw [hb_u2_n (by omega), hb_u2_n (by omega), hb_u2_n (by omega), hb_u2_n (by omega)]
  · have b0 : -1000000000 ≤ V0 ∧ V0 ≤ 1000000000 := by
      show -1000000000 ≤ hb_d1 _ _ _ _ ∧ hb_d1 _ _ _ _ ≤ 1000000000
      unfold hb_d1; split <;> omega
    have b1 : -1000000000 ≤ V1 ∧ V1 ≤ 1000000000 := by
      show -1000000000 ≤ hb_d1 _ _ _ _ ∧ hb_d1 _ _ _ _ ≤ 1000000000
      unfold hb_d1; split <;> omega
    have b2 : -1000000000 ≤ V2 ∧ V2 ≤ 1000000000 := by
      show -1000000000 ≤ hb_d1 _ _ _ _ ∧ hb_d1 _ _ _ _ ≤ 1000000000
      unfold hb_d1; split <;> omega
    rcases hu with rfl | rfl | rfl
    · show -1000000000 ≤ hb_uf (G 41) _ V0 i ∧ hb_uf (G 41) _ V0 i ≤ 1000000000
      unfold hb_uf; split
      · exact b0
      · exact hbn.1 i hi 41 (by omega)
    · show -1000000000 ≤ hb_uf (G 42) _ V1 i ∧ hb_uf (G 42) _ V1 i ≤ 1000000000
      unfold hb_uf; split
      · exact b1
      · exact hbn.1 i hi 42 (by omega)
    · show -1000000000 ≤ hb_uf (G 43) _ V2 i ∧ hb_uf (G 43) _ V2 i ≤ 1000000000
      unfold hb_uf; split
      · exact b2
      · exact hbn.1 i hi 43 (by omega)
/-! concessions -/
theorem bk_hap4 {l : Launch} {D G : hb_G} {F : hb_F} {na : Nat} {r : List Nat} {e o : Nat} (hs : bk_sb D) (hve : bk_vd D e) (hvr : ∀ f ∈ r, bk_vd D f) (hlen : r.length < 200) (hob : bk_obj D G e (77 + o)) (ho : o < na) (hSD : bk_SD D G r) (hG : hb_rg G) (hbn : hb_bn G) (e4 : D 63 e = 4) : ∃ H, hb_M l yX4_happen cX4_happen 2 none 3 0 0 [hb_r 32, hb_r (77 + o)] (hb_w G F na) (77 + na) (.inl none) (hb_w H F na) (77 + na) ∧ bk_SD D H (e :: r) ∧ bk_kp G H ∧ hb_rg H ∧ hb_bn H := by
  obtain ⟨S1, S2, S3, S4, S5⟩ := hSD
  obtain ⟨o0, o1, o2, o3, o4, o5, o6, o7⟩ := hob
  have hve9 := hve
  obtain ⟨v1, v2, v3, v4, v5, v6, v7, v8, v9⟩ := hve
  have v7 := v7 (Or.inr e4)
  have v8 := v8 e4
  have o6 := o6 (by omega)
  have o7 := o7 e4
  have s3 := S3 _ _ v3.1 v7.1 v3.2 v7.2
  have s4 := S4 _ _ v3.1 v7.1
  have hcn : ∀ t k, bk_cn D t k (e :: r) = if D 65 e = t ∧ D 67 e = k then 1 else bk_cn D t k r := fun t k => by
    conv => lhs; unfold bk_cn
    by_cases h : D 65 e = t ∧ D 67 e = k
    · rw [if_pos ⟨e4, h⟩, if_pos h]
    · rw [if_neg (fun h9 => h h9.2), if_neg (fun h9 => by omega), if_neg h]
  by_cases hc : bk_cn D (D 65 e) (D 67 e) r = 0
  · have hc2 := s4.mpr hc
    have hdb := fun (u : Int) (hu : 0 ≤ u ∧ u < 3) => bk_DU_b hs hu v3.1 v7.1 hvr
    have d0 := hdb 0 (by decide); have d1 := hdb 1 (by decide); have d2 := hdb 2 (by decide)
    have n77 : ∀ p : Nat, p < 77 → (77 + o : Nat) ≠ p := fun p hp => by omega
    let B : Int := hb_or (G 44 (D 65 e)) (hb_sl 1 (D 67 e))
    let V0 : Int := G 41 (D 65 e * 16 + D 67 e) + D 68 e
    let V1 : Int := G 42 (D 65 e * 16 + D 67 e) + D 69 e / 10001
    let V2 : Int := G 43 (D 65 e * 16 + D 67 e) + D 69 e % 10001
    have X0 : hb_p0 G (77 + o) = hb_u2 G 44 (D 65 e) B := by
      unfold hb_p0; rw [o1, o6]
    have X1 : hb_pu (hb_u2 G 44 (D 65 e) B) (77 + o) (G (77 + o) 4) 0 = hb_u2 (hb_u2 G 44 (D 65 e) B) 41 (D 65 e * 16 + D 67 e) V0 := by
      unfold hb_pu hb_am
      rw [hb_u2_n (n77 44 (by omega)), o1, o6, if_pos (show ((0 : Nat) : Int) = 0 from rfl), o7.1]
      rfl
    have X2 : hb_pu (hb_u2 (hb_u2 G 44 (D 65 e) B) 41 (D 65 e * 16 + D 67 e) V0) (77 + o) (G (77 + o) 4) 1 = hb_u2 (hb_u2 (hb_u2 G 44 (D 65 e) B) 41 (D 65 e * 16 + D 67 e) V0) 42 (D 65 e * 16 + D 67 e) V1 := by
      unfold hb_pu hb_am
      rw [hb_u2_n (n77 41 (by omega)), hb_u2_n (n77 44 (by omega)), o1, o6, if_neg (show ¬ ((1 : Nat) : Int) = 0 by decide), if_pos (show ((1 : Nat) : Int) = 1 from rfl), o7.2.1]
      rfl
    have X3 : hb_pu (hb_u2 (hb_u2 (hb_u2 G 44 (D 65 e) B) 41 (D 65 e * 16 + D 67 e) V0) 42 (D 65 e * 16 + D 67 e) V1) (77 + o) (G (77 + o) 4) 2 = hb_u2 (hb_u2 (hb_u2 (hb_u2 G 44 (D 65 e) B) 41 (D 65 e * 16 + D 67 e) V0) 42 (D 65 e * 16 + D 67 e) V1) 43 (D 65 e * 16 + D 67 e) V2 := by
      unfold hb_pu hb_am
      rw [hb_u2_n (n77 42 (by omega)), hb_u2_n (n77 41 (by omega)), hb_u2_n (n77 44 (by omega)), o1, o6, if_neg (show ¬ ((2 : Nat) : Int) = 0 by decide), if_neg (show ¬ ((2 : Nat) : Int) = 1 by decide), o7.2.2]
      rfl
    have g0 : -30000 ≤ V0 ∧ V0 ≤ 100000000 := by show -30000 ≤ _ + _ ∧ _ + _ ≤ 100000000; rw [s3.1]; omega
    have g1 : -30000 ≤ V1 ∧ V1 ≤ 100000000 := by show -30000 ≤ _ + _ ∧ _ + _ ≤ 100000000; rw [s3.2.1]; omega
    have g2 : -30000 ≤ V2 ∧ V2 ≤ 100000000 := by show -30000 ≤ _ + _ ∧ _ + _ ≤ 100000000; rw [s3.2.2]; omega
    have iB : hb_in B := bk_in_or _ _
    have iV0 : hb_in V0 := by constructor <;> omega
    have iV1 : hb_in V1 := by constructor <;> omega
    have iV2 : hb_in V2 := by constructor <;> omega
    have hM := c_postponeY (l := l) (F := F) (G := G) ho (by rw [o1]; exact v3.1) (by rw [o6]; exact v7.1) (by rw [o1, o6]; exact hc2) hG (by rw [X0]; exact hG.u2 iB) (by rw [X0, X1]; exact (hG.u2 iB).u2 iV0) (by rw [X0, X1, X2]; exact ((hG.u2 iB).u2 iV0).u2 iV1)
    have XP : hb_pp G (77 + o) = hb_u2 (hb_u2 (hb_u2 (hb_u2 G 44 (D 65 e) B) 41 (D 65 e * 16 + D 67 e) V0) 42 (D 65 e * 16 + D 67 e) V1) 43 (D 65 e * 16 + D 67 e) V2 := by
      unfold hb_pp
      rw [X0, X1, X2, X3]
    rw [XP] at hM
    refine ⟨_, c_happen4 ho (by rw [o0, e4]; rfl) hM, ⟨bk_S1_k S1 (by omega) rfl rfl rfl, bk_S2_k S2 (by omega) rfl rfl, ?_, ?_, bk_S5_k S5 (by omega) rfl⟩, ?_, (((hG.u2 iB).u2 iV0).u2 iV1).u2 iV2, ⟨fun i hi u hu => ?_, hbn.2⟩⟩
    · intro t k ht hk h1 h2
      show hb_uf (G 41) (D 65 e * 16 + D 67 e) V0 (t * 16 + k) = _ ∧ hb_uf (G 42) (D 65 e * 16 + D 67 e) V1 (t * 16 + k) = _ ∧ hb_uf (G 43) (D 65 e * 16 + D 67 e) V2 (t * 16 + k) = _
      by_cases et : t = D 65 e ∧ k = D 67 e
      · obtain ⟨rfl, rfl⟩ := et
        have y : ∀ u, bk_DU D u (D 65 e) (D 67 e) (e :: r) = bk_DU D u (D 65 e) (D 67 e) r + hb_aj D e u := fun u => by
          conv => lhs; unfold bk_DU
          rw [if_neg (fun h => by omega), if_pos ⟨⟨e4, rfl, rfl⟩, hc⟩]
        rw [y 0, y 1, y 2]
        unfold hb_uf
        rw [if_pos rfl, if_pos rfl, if_pos rfl]
        refine ⟨?_, ?_, ?_⟩
        · show _ + _ = _
          rw [s3.1]; rfl
        · show _ + _ = _
          rw [s3.2.1]; rfl
        · show _ + _ = _
          rw [s3.2.2]; rfl
      · have hn : ¬ bk_of D t k e := fun h => et ⟨h.2.1.symm, h.2.2.symm⟩
        have hne : t * 16 + k ≠ D 65 e * 16 + D 67 e := fun h => et ⟨by omega, by omega⟩
        rw [(bk_du_n hn).1, (bk_du_n hn).1, (bk_du_n hn).1]
        unfold hb_uf
        rw [if_neg hne, if_neg hne, if_neg hne]
        exact S3 t k ht hk h1 h2
    · intro t k ht hk
      show hb_an (hb_uf (G 44) (D 65 e) B t) _ = 0 ↔ _
      rw [hcn]
      unfold hb_uf
      by_cases et : t = D 65 e
      · rw [if_pos et, bk_b1 hk v7.1]
        by_cases ek : k = D 67 e
        · rw [if_pos ⟨et.symm, ek.symm⟩]
          exact ⟨fun h => absurd ek h.1, fun h => by omega⟩
        · rw [if_neg (fun h => ek h.2.symm), ← S4 t k ht hk, et]
          exact ⟨fun h => h.2, fun h => ⟨ek, h⟩⟩
      · rw [if_neg et, if_neg (fun h => et h.1.symm)]
        exact S4 t k ht hk
    · intro p hp
      rw [hb_u2_n (by omega), hb_u2_n (by omega), hb_u2_n (by omega), hb_u2_n (by omega)]
    · rcases hu with rfl | rfl | rfl
      · show -1000000000 ≤ hb_uf (G 41) _ V0 i ∧ hb_uf (G 41) _ V0 i ≤ 1000000000
        unfold hb_uf; split
        · omega
        · exact hbn.1 i hi 41 (by omega)
      · show -1000000000 ≤ hb_uf (G 42) _ V1 i ∧ hb_uf (G 42) _ V1 i ≤ 1000000000
        unfold hb_uf; split
        · omega
        · exact hbn.1 i hi 42 (by omega)
      · show -1000000000 ≤ hb_uf (G 43) _ V2 i ∧ hb_uf (G 43) _ V2 i ≤ 1000000000
        unfold hb_uf; split
        · omega
        · exact hbn.1 i hi 43 (by omega)
  · have hM := c_postponeN (l := l) (F := F) (G := G) ho (by rw [o1]; exact v3.1) (by rw [o1, o6]; exact fun h => hc (s4.mp h)) hG
    refine ⟨_, c_happen4 ho (by rw [o0, e4]; rfl) hM, ⟨bk_S1_k S1 (by omega) rfl rfl rfl, bk_S2_k S2 (by omega) rfl rfl, ?_, ?_, bk_S5_k S5 (by omega) rfl⟩, bk_kp.rf, hG, hbn⟩
    · intro t k ht hk h1 h2
      have y : ∀ u, bk_DU D u t k (e :: r) = bk_DU D u t k r := fun u => by
        conv => lhs; unfold bk_DU
        rw [if_neg (fun h => by omega), if_neg (fun h => hc (by rw [h.1.2.1, h.1.2.2]; exact h.2))]
      rw [y 0, y 1, y 2]
      exact S3 t k ht hk h1 h2
    · intro t k ht hk
      rw [hcn]
      by_cases et : D 65 e = t ∧ D 67 e = k
      · rw [if_pos et, ← et.1, ← et.2]
        exact ⟨fun h => absurd (s4.mp h) hc, fun h => by omega⟩
      · rw [if_neg et]; exact S4 t k ht hk
/-- what happens next -/
theorem bk_hap {l : Launch} {D G : hb_G} {F : hb_F} {na : Nat} {r : List Nat} {e o : Nat} (hs : bk_sb D) (hsl : bk_sl D G) (hve : bk_vd D e) (hvr : ∀ f ∈ r, bk_vd D f) (hlen : r.length < 200) (hLG : bk_LG D (e :: r)) (hob : bk_obj D G e (77 + o)) (ho : o < na) (hM : D 63 e = 0 → ∀ t, 0 ≤ t ∧ t < 40 → (D 73 (40 * e + t) = D 65 e ↔ hb_tp (bk_TR D r).1 4 t = D 65 e)) (hSD : bk_SD D G r) (hG : hb_rg G) (hbn : hb_bn G) : ∃ H, hb_M l yX4_happen cX4_happen 2 none 3 0 0 [hb_r 32, hb_r (77 + o)] (hb_w G F na) (77 + na) (.inl none) (hb_w H F na) (77 + na) ∧ bk_SD D H (e :: r) ∧ bk_kp G H ∧ hb_rg H ∧ hb_bn H := by
  have h := hve.1
  rcases (show D 63 e = 0 ∨ D 63 e = 1 ∨ D 63 e = 2 ∨ D 63 e = 3 ∨ D 63 e = 4 ∨ D 63 e = 5 by omega) with h | h | h | h | h | h
  · exact bk_hap0 hs hve hvr hlen hLG hob ho (hM h) hSD hG hbn h
  · exact bk_hap1 hs hsl hve hvr hLG hob ho hSD hG hbn h
  · exact bk_hap2 hs hsl hve hvr hLG hob ho hSD hG hbn h
  · exact bk_hap3 hs hsl hve hvr hlen hob ho hSD hG hbn h
  · exact bk_hap4 hs hve hvr hlen hob ho hSD hG hbn h
  · exact bk_hap5 hve hob ho hSD hG hbn h

theorem hb_m5 {a b : Int} (ha : 0 ≤ a ∧ a ≤ 100000) (hb : 0 ≤ b ∧ b ≤ 500) : hb_in (a * b) ∧ 0 ≤ a * b := by
  have h1 : 0 ≤ a * b := Int.mul_nonneg ha.1 hb.1
  have h2 : a * b ≤ 100000 * 500 := Int.mul_le_mul ha.2 hb.2 hb.1 (by omega)
  exact ⟨⟨by omega, by omega⟩, h1⟩
/-- t may be put into place p of a, in a tree with parents par and children ch -/
def hb_ok (G : hb_G) (par ch : Int → Int) (t a p : Int) : Prop := par t = -1 ∧ ch (a * 4 + p) = -1 ∧ G 2 (G 7 a * 4 + p) = G 7 t ∧ hb_la par t 5 0 a = -1 ∧ hb_la par (hb_tp par 4 a) 5 0 a + 1 + hb_ht (fun i => hb_la par t 5 0 i) 40 ≤ 4
def hb_pt (G : hb_G) (b : Nat) (t a p : Int) : hb_G := hb_u2 (hb_u2 (hb_u2 G (b + 1) t a) (b + 2) t p) (b + 3) (a * 4 + p) t
def hb_tk (G : hb_G) (b : Nat) (t : Int) : hb_G := hb_u2 (hb_u2 (hb_u2 G (b + 3) (G (b + 1) t * 4 + G (b + 2) t) (-1)) (b + 1) t (-1)) (b + 2) t (-1)
set_option maxRecDepth 20000 in
set_option maxHeartbeats 1000000 in
theorem c_hangY28 {l : Launch} {G : hb_G} {F : hb_F} {na : Nat} {e : Nat} (he : e < na) (ht : 0 ≤ G (77 + e) 1 ∧ G (77 + e) 1 < 40) (ha : 0 ≤ G (77 + e) 4 ∧ G (77 + e) 4 < 40) (hpp : 0 ≤ G (77 + e) 5 ∧ G (77 + e) 5 < 4) (hk : 0 ≤ G 7 (G (77 + e) 4) ∧ G 7 (G (77 + e) 4) < 12) (ok : hb_ok G (G 29) (G 31) (G (77 + e) 1) (G (77 + e) 4) (G (77 + e) 5)) (hp : hb_tr (G 29)) (hG : hb_rg G) : hb_M l yX7_hang cX7_hang 5 (some .boolean) 2 0 0 [hb_r 28, hb_r (77 + e)] (hb_w G F na) (77 + na) (.inl (some (hb_i (1)))) (hb_w (hb_pt G 28 (G (77 + e) 1) (G (77 + e) 4) (G (77 + e) 5)) F na) (77 + na) := by
  refine hb_M_in rfl rfl (by decide) rfl (Nat.le_of_ble_eq_true rfl) ?_
  intro E z0 σ0
  have l1 := hb_la_in (par := G 29) (u := G (77 + e) 1) 5 0 (G (77 + e) 4) (by omega)
  have l2 := hb_la_in (par := G 29) (u := hb_tp (G 29) 4 (G (77 + e) 4)) 5 0 (G (77 + e) 4) (by omega)
  have l3 := hb_ht_in (f := fun i => hb_la (G 29) (G (77 + e) 1) 5 0 i) (M := 5) (by omega) (fun i => by have := hb_la_in (par := G 29) (u := G (77 + e) 1) 5 0 i (by omega); omega) 40
  refine aw_ald1 dX7_hang_0 ?_
  refine aw_getf dX7_hang_1 hbf_X7_35 (hb_we he) rfl ?_
  refine aw_ipu2 dX7_hang_4 (by decide) ?_
  refine aw_ald1 dX7_hang_5 ?_
  refine aw_getf dX7_hang_6 hbf_X7_41 (hb_we he) rfl ?_
  refine aw_ipu3 dX7_hang_9 (by decide) ?_
  refine aw_ald1 dX7_hang_10 ?_
  refine aw_getf dX7_hang_11 hbf_X7_44 (hb_we he) rfl ?_
  refine aw_ipu4 dX7_hang_14 (by decide) ?_
  refine aw_ald0 dX7_hang_16 ?_
  refine aw_getf dX7_hang_17 hbf_X7_9 rfl rfl ?_
  refine aw_ild2 dX7_hang_20 ?_
  refine aw_iald dX7_hang_21 rfl (by constructor <;> omega) (by decide) ?_
  refine aw_iconst dX7_hang_22 ?_
  refine aw_icmp_ne (tg := 79) dX7_hang_23 (by decide) (by first | exact hG _ _ | (constructor <;> omega)) (by first | exact hG _ _ | (constructor <;> omega)) (fun c23 => absurd c23 (by rw [ok.1]; decide)) (fun c23 => ?_)
  refine aw_ald0 dX7_hang_26 ?_
  refine aw_getf dX7_hang_27 hbf_X7_18 rfl rfl ?_
  refine aw_ild3 dX7_hang_30 ?_
  refine aw_iconst dX7_hang_31 ?_
  refine aw_imul dX7_hang_32 ?_
  refine aw_ild4 dX7_hang_33 ?_
  refine aw_iadd dX7_hang_35 ?_
  refine aw_iald dX7_hang_36 rfl (by constructor <;> omega) (by decide) ?_
  refine aw_iconst dX7_hang_37 ?_
  refine aw_icmp_ne (tg := 79) dX7_hang_38 (by decide) (by first | exact hG _ _ | (constructor <;> omega)) (by first | exact hG _ _ | (constructor <;> omega)) (fun c38 => absurd c38 (by rw [ok.2.1]; decide)) (fun c38 => ?_)
  refine aw_ald0 dX7_hang_41 ?_
  refine aw_ild2 dX7_hang_42 ?_
  refine aw_ild3 dX7_hang_43 ?_
  refine aw_ild4 dX7_hang_44 ?_
  refine aw_V3v dX7_hang_46 (c_fits28 (by first | assumption | omega | (constructor <;> omega) | exact hG _ _) (by first | assumption | omega | (constructor <;> omega) | exact hG _ _) (by first | assumption | omega | (constructor <;> omega) | exact hG _ _) (by first | assumption | omega | (constructor <;> omega) | exact hG _ _) hG) rfl rfl hbY_X7_fits hbm_X7_46 hbi_X7_fits hbe_X7_X7_fits (Nat.le_of_ble_eq_true rfl) ⟨by decide, by decide⟩ (by decide) (by decide) ?_
  refine aw_ifb_eq (tg := 79) dX7_hang_49 (by decide) (fun c49 => absurd c49 (by exact fun h8 => h8 ok.2.2.1)) (fun c49 => ?_)
  refine aw_ald0 dX7_hang_52 ?_
  refine aw_ild2 dX7_hang_53 ?_
  refine aw_ild3 dX7_hang_54 ?_
  refine aw_V2v dX7_hang_55 (c_levelsAbove28 (by first | assumption | omega | (constructor <;> omega) | exact hG _ _) (by first | assumption | omega | (constructor <;> omega) | exact hG _ _) hp hG) rfl rfl hbY_X7_levelsAbove hbm_X7_50 hbi_X7_levelsAbove hbe_X7_X7_levelsAbove (Nat.le_of_ble_eq_true rfl) ⟨by decide, by decide⟩ (by decide) (by decide) ?_
  refine aw_iconst dX7_hang_58 ?_
  refine aw_icmp_ne (tg := 79) dX7_hang_59 (by decide) (by first | exact hG _ _ | (constructor <;> omega)) (by first | exact hG _ _ | (constructor <;> omega)) (fun c59 => absurd c59 (by rw [ok.2.2.2.1]; decide)) (fun c59 => ?_)
  refine aw_ald0 dX7_hang_62 ?_
  refine aw_ild3 dX7_hang_63 ?_
  refine aw_V1v dX7_hang_64 (c_depthOf28 (by first | assumption | omega | (constructor <;> omega) | exact hG _ _) hp hG) rfl rfl hbY_X7_depthOf hbm_X7_54 hbi_X7_depthOf hbe_X7_X7_depthOf (Nat.le_of_ble_eq_true rfl) ⟨by decide, by decide⟩ (by decide) (by decide) ?_
  refine aw_iconst dX7_hang_67 ?_
  refine aw_iadd dX7_hang_68 ?_
  refine aw_ald0 dX7_hang_69 ?_
  refine aw_ild2 dX7_hang_70 ?_
  refine aw_V1v dX7_hang_71 (c_heightOf28 (by first | assumption | omega | (constructor <;> omega) | exact hG _ _) hp hG) rfl rfl hbY_X7_heightOf hbm_X7_58 hbi_X7_heightOf hbe_X7_X7_heightOf (Nat.le_of_ble_eq_true rfl) ⟨by decide, by decide⟩ (by decide) (by decide) ?_
  refine aw_iadd dX7_hang_74 ?_
  refine aw_iconst dX7_hang_75 ?_
  refine aw_icmp_le (tg := 81) dX7_hang_76 (by decide) (by first | exact hG _ _ | (constructor <;> omega)) (by first | exact hG _ _ | (constructor <;> omega)) (fun c76 => ?_) (fun c76 => absurd c76 (by exact fun h8 => absurd ok.2.2.2.2 (by omega)))
  refine aw_ald0 dX7_hang_81 ?_
  refine aw_getf dX7_hang_82 hbf_X7_9 rfl rfl ?_
  refine aw_ild2 dX7_hang_85 ?_
  refine aw_ild3 dX7_hang_86 ?_
  refine aw_iastw dX7_hang_87 (fun _ => rfl) rfl (by constructor <;> omega) (by decide) ?_
  refine aw_ald0 dX7_hang_88 ?_
  refine aw_getf dX7_hang_89 hbf_X7_15 rfl rfl ?_
  refine aw_ild2 dX7_hang_92 ?_
  refine aw_ild4 dX7_hang_93 ?_
  refine aw_iastw dX7_hang_95 (fun _ => rfl) rfl (by constructor <;> omega) (by decide) ?_
  refine aw_ald0 dX7_hang_96 ?_
  refine aw_getf dX7_hang_97 hbf_X7_18 rfl rfl ?_
  refine aw_ild3 dX7_hang_100 ?_
  refine aw_iconst dX7_hang_101 ?_
  refine aw_imul dX7_hang_102 ?_
  refine aw_ild4 dX7_hang_103 ?_
  refine aw_iadd dX7_hang_105 ?_
  refine aw_ild2 dX7_hang_106 ?_
  refine aw_iastw dX7_hang_107 (fun _ => rfl) rfl (by constructor <;> omega) (by decide) ?_
  refine aw_iconst dX7_hang_108 ?_
  exact aw_zret dX7_hang_109 rfl (by first | omega | exact hb_b01 _) (by rfl) rfl rfl (by decide) (by decide)
set_option maxRecDepth 20000 in
set_option maxHeartbeats 1000000 in
theorem c_hangN28 {l : Launch} {G : hb_G} {F : hb_F} {na : Nat} {e : Nat} (he : e < na) (ht : 0 ≤ G (77 + e) 1 ∧ G (77 + e) 1 < 40) (ha : 0 ≤ G (77 + e) 4 ∧ G (77 + e) 4 < 40) (hpp : 0 ≤ G (77 + e) 5 ∧ G (77 + e) 5 < 4) (hk : 0 ≤ G 7 (G (77 + e) 4) ∧ G 7 (G (77 + e) 4) < 12) (nok : ¬ hb_ok G (G 29) (G 31) (G (77 + e) 1) (G (77 + e) 4) (G (77 + e) 5)) (hp : hb_tr (G 29)) (hG : hb_rg G) : hb_M l yX7_hang cX7_hang 5 (some .boolean) 2 0 0 [hb_r 28, hb_r (77 + e)] (hb_w G F na) (77 + na) (.inl (some (hb_i (0)))) (hb_w G F na) (77 + na) := by
  refine hb_M_in rfl rfl (by decide) rfl (Nat.le_of_ble_eq_true rfl) ?_
  intro E z0 σ0
  have l1 := hb_la_in (par := G 29) (u := G (77 + e) 1) 5 0 (G (77 + e) 4) (by omega)
  have l2 := hb_la_in (par := G 29) (u := hb_tp (G 29) 4 (G (77 + e) 4)) 5 0 (G (77 + e) 4) (by omega)
  have l3 := hb_ht_in (f := fun i => hb_la (G 29) (G (77 + e) 1) 5 0 i) (M := 5) (by omega) (fun i => by have := hb_la_in (par := G 29) (u := G (77 + e) 1) 5 0 i (by omega); omega) 40
  refine aw_ald1 dX7_hang_0 ?_
  refine aw_getf dX7_hang_1 hbf_X7_35 (hb_we he) rfl ?_
  refine aw_ipu2 dX7_hang_4 (by decide) ?_
  refine aw_ald1 dX7_hang_5 ?_
  refine aw_getf dX7_hang_6 hbf_X7_41 (hb_we he) rfl ?_
  refine aw_ipu3 dX7_hang_9 (by decide) ?_
  refine aw_ald1 dX7_hang_10 ?_
  refine aw_getf dX7_hang_11 hbf_X7_44 (hb_we he) rfl ?_
  refine aw_ipu4 dX7_hang_14 (by decide) ?_
  refine aw_ald0 dX7_hang_16 ?_
  refine aw_getf dX7_hang_17 hbf_X7_9 rfl rfl ?_
  refine aw_ild2 dX7_hang_20 ?_
  refine aw_iald dX7_hang_21 rfl (by constructor <;> omega) (by decide) ?_
  refine aw_iconst dX7_hang_22 ?_
  refine aw_icmp_ne (tg := 79) dX7_hang_23 (by decide) (by first | exact hG _ _ | (constructor <;> omega)) (by first | exact hG _ _ | (constructor <;> omega)) (fun c23 => ?_) (fun c23 => ?_)
  · skip
    refine aw_iconst dX7_hang_79 ?_
    exact aw_zret dX7_hang_80 rfl (by first | omega | exact hb_b01 _) (by rfl) rfl rfl (by decide) (by decide)
  · skip
    refine aw_ald0 dX7_hang_26 ?_
    refine aw_getf dX7_hang_27 hbf_X7_18 rfl rfl ?_
    refine aw_ild3 dX7_hang_30 ?_
    refine aw_iconst dX7_hang_31 ?_
    refine aw_imul dX7_hang_32 ?_
    refine aw_ild4 dX7_hang_33 ?_
    refine aw_iadd dX7_hang_35 ?_
    refine aw_iald dX7_hang_36 rfl (by constructor <;> omega) (by decide) ?_
    refine aw_iconst dX7_hang_37 ?_
    refine aw_icmp_ne (tg := 79) dX7_hang_38 (by decide) (by first | exact hG _ _ | (constructor <;> omega)) (by first | exact hG _ _ | (constructor <;> omega)) (fun c38 => ?_) (fun c38 => ?_)
    · skip
      refine aw_iconst dX7_hang_79 ?_
      exact aw_zret dX7_hang_80 rfl (by first | omega | exact hb_b01 _) (by rfl) rfl rfl (by decide) (by decide)
    · skip
      refine aw_ald0 dX7_hang_41 ?_
      refine aw_ild2 dX7_hang_42 ?_
      refine aw_ild3 dX7_hang_43 ?_
      refine aw_ild4 dX7_hang_44 ?_
      refine aw_V3v dX7_hang_46 (c_fits28 (by first | assumption | omega | (constructor <;> omega) | exact hG _ _) (by first | assumption | omega | (constructor <;> omega) | exact hG _ _) (by first | assumption | omega | (constructor <;> omega) | exact hG _ _) (by first | assumption | omega | (constructor <;> omega) | exact hG _ _) hG) rfl rfl hbY_X7_fits hbm_X7_46 hbi_X7_fits hbe_X7_X7_fits (Nat.le_of_ble_eq_true rfl) ⟨by decide, by decide⟩ (by decide) (by decide) ?_
      refine aw_ifb_eq (tg := 79) dX7_hang_49 (by decide) (fun c49 => ?_) (fun c49 => ?_)
      · skip
        refine aw_iconst dX7_hang_79 ?_
        exact aw_zret dX7_hang_80 rfl (by first | omega | exact hb_b01 _) (by rfl) rfl rfl (by decide) (by decide)
      · skip
        refine aw_ald0 dX7_hang_52 ?_
        refine aw_ild2 dX7_hang_53 ?_
        refine aw_ild3 dX7_hang_54 ?_
        refine aw_V2v dX7_hang_55 (c_levelsAbove28 (by first | assumption | omega | (constructor <;> omega) | exact hG _ _) (by first | assumption | omega | (constructor <;> omega) | exact hG _ _) hp hG) rfl rfl hbY_X7_levelsAbove hbm_X7_50 hbi_X7_levelsAbove hbe_X7_X7_levelsAbove (Nat.le_of_ble_eq_true rfl) ⟨by decide, by decide⟩ (by decide) (by decide) ?_
        refine aw_iconst dX7_hang_58 ?_
        refine aw_icmp_ne (tg := 79) dX7_hang_59 (by decide) (by first | exact hG _ _ | (constructor <;> omega)) (by first | exact hG _ _ | (constructor <;> omega)) (fun c59 => ?_) (fun c59 => ?_)
        · skip
          refine aw_iconst dX7_hang_79 ?_
          exact aw_zret dX7_hang_80 rfl (by first | omega | exact hb_b01 _) (by rfl) rfl rfl (by decide) (by decide)
        · skip
          refine aw_ald0 dX7_hang_62 ?_
          refine aw_ild3 dX7_hang_63 ?_
          refine aw_V1v dX7_hang_64 (c_depthOf28 (by first | assumption | omega | (constructor <;> omega) | exact hG _ _) hp hG) rfl rfl hbY_X7_depthOf hbm_X7_54 hbi_X7_depthOf hbe_X7_X7_depthOf (Nat.le_of_ble_eq_true rfl) ⟨by decide, by decide⟩ (by decide) (by decide) ?_
          refine aw_iconst dX7_hang_67 ?_
          refine aw_iadd dX7_hang_68 ?_
          refine aw_ald0 dX7_hang_69 ?_
          refine aw_ild2 dX7_hang_70 ?_
          refine aw_V1v dX7_hang_71 (c_heightOf28 (by first | assumption | omega | (constructor <;> omega) | exact hG _ _) hp hG) rfl rfl hbY_X7_heightOf hbm_X7_58 hbi_X7_heightOf hbe_X7_X7_heightOf (Nat.le_of_ble_eq_true rfl) ⟨by decide, by decide⟩ (by decide) (by decide) ?_
          refine aw_iadd dX7_hang_74 ?_
          refine aw_iconst dX7_hang_75 ?_
          refine aw_icmp_le (tg := 81) dX7_hang_76 (by decide) (by first | exact hG _ _ | (constructor <;> omega)) (by first | exact hG _ _ | (constructor <;> omega)) (fun c76 => absurd c76 (by exact fun h8 => nok ⟨by omega, by omega, by assumption, by omega, h8⟩)) (fun c76 => ?_)
          refine aw_iconst dX7_hang_79 ?_
          exact aw_zret dX7_hang_80 rfl (by first | omega | exact hb_b01 _) (by rfl) rfl rfl (by decide) (by decide)
set_option maxRecDepth 20000 in
set_option maxHeartbeats 1000000 in
theorem c_unhangY28 {l : Launch} {G : hb_G} {F : hb_F} {na : Nat} {t : Int} (ht : 0 ≤ t ∧ t < 40) (ok : G 29 t ≠ -1) (hpl : 0 ≤ G 30 t ∧ G 30 t < 4) (hp : hb_tr (G 29)) (hG : hb_rg G) : hb_M l yX7_unhang cX7_unhang 2 (some .boolean) 0 0 0 [hb_r 28, hb_i t] (hb_w G F na) (77 + na) (.inl (some (hb_i (1)))) (hb_w (hb_tk G 28 t) F na) (77 + na) := by
  refine hb_M_in rfl rfl (by decide) rfl (Nat.le_of_ble_eq_true rfl) ?_
  intro E z0 σ0
  have h8 := hp t ht
  refine aw_ald0 dX7_unhang_0 ?_
  refine aw_getf dX7_unhang_1 hbf_X7_9 rfl rfl ?_
  refine aw_ild1 dX7_unhang_4 ?_
  refine aw_iald dX7_unhang_5 rfl (by constructor <;> omega) (by decide) ?_
  refine aw_iconst dX7_unhang_6 ?_
  refine aw_icmp_ne (tg := 12) dX7_unhang_7 (by decide) (by first | exact hG _ _ | (constructor <;> omega)) (by first | exact hG _ _ | (constructor <;> omega)) (fun c7 => ?_) (fun c7 => absurd c7 (by omega))
  refine aw_ald0 dX7_unhang_12 ?_
  refine aw_getf dX7_unhang_13 hbf_X7_18 rfl rfl ?_
  refine aw_ald0 dX7_unhang_16 ?_
  refine aw_getf dX7_unhang_17 hbf_X7_9 rfl rfl ?_
  refine aw_ild1 dX7_unhang_20 ?_
  refine aw_iald dX7_unhang_21 rfl (by constructor <;> omega) (by decide) ?_
  refine aw_iconst dX7_unhang_22 ?_
  refine aw_imul dX7_unhang_23 ?_
  refine aw_ald0 dX7_unhang_24 ?_
  refine aw_getf dX7_unhang_25 hbf_X7_15 rfl rfl ?_
  refine aw_ild1 dX7_unhang_28 ?_
  refine aw_iald dX7_unhang_29 rfl (by constructor <;> omega) (by decide) ?_
  refine aw_iadd dX7_unhang_30 ?_
  refine aw_iconst dX7_unhang_31 ?_
  refine aw_iastw dX7_unhang_32 (fun _ => rfl) rfl (by constructor <;> omega) (by decide) ?_
  refine aw_ald0 dX7_unhang_33 ?_
  refine aw_getf dX7_unhang_34 hbf_X7_9 rfl rfl ?_
  refine aw_ild1 dX7_unhang_37 ?_
  refine aw_iconst dX7_unhang_38 ?_
  refine aw_iastw dX7_unhang_39 (fun _ => rfl) rfl (by constructor <;> omega) (by decide) ?_
  refine aw_ald0 dX7_unhang_40 ?_
  refine aw_getf dX7_unhang_41 hbf_X7_15 rfl rfl ?_
  refine aw_ild1 dX7_unhang_44 ?_
  refine aw_iconst dX7_unhang_45 ?_
  refine aw_iastw dX7_unhang_46 (fun _ => rfl) rfl (by constructor <;> omega) (by decide) ?_
  refine aw_iconst dX7_unhang_47 ?_
  exact aw_zret dX7_unhang_48 rfl (by first | omega | exact hb_b01 _) (by rfl) rfl rfl (by decide) (by decide)
set_option maxRecDepth 20000 in
set_option maxHeartbeats 1000000 in
theorem c_unhangN28 {l : Launch} {G : hb_G} {F : hb_F} {na : Nat} {t : Int} (ht : 0 ≤ t ∧ t < 40) (nok : G 29 t = -1) (hG : hb_rg G) : hb_M l yX7_unhang cX7_unhang 2 (some .boolean) 0 0 0 [hb_r 28, hb_i t] (hb_w G F na) (77 + na) (.inl (some (hb_i (0)))) (hb_w G F na) (77 + na) := by
  refine hb_M_in rfl rfl (by decide) rfl (Nat.le_of_ble_eq_true rfl) ?_
  intro E z0 σ0
  refine aw_ald0 dX7_unhang_0 ?_
  refine aw_getf dX7_unhang_1 hbf_X7_9 rfl rfl ?_
  refine aw_ild1 dX7_unhang_4 ?_
  refine aw_iald dX7_unhang_5 rfl (by constructor <;> omega) (by decide) ?_
  refine aw_iconst dX7_unhang_6 ?_
  refine aw_icmp_ne (tg := 12) dX7_unhang_7 (by decide) (by first | exact hG _ _ | (constructor <;> omega)) (by first | exact hG _ _ | (constructor <;> omega)) (fun c7 => absurd c7 (by omega)) (fun c7 => ?_)
  refine aw_iconst dX7_unhang_10 ?_
  exact aw_zret dX7_unhang_11 rfl (by first | omega | exact hb_b01 _) (by rfl) rfl rfl (by decide) (by decide)
set_option maxRecDepth 20000 in
set_option maxHeartbeats 1000000 in
theorem c_hangY33 {l : Launch} {G : hb_G} {F : hb_F} {na : Nat} {e : Nat} (he : e < na) (ht : 0 ≤ G (77 + e) 1 ∧ G (77 + e) 1 < 40) (ha : 0 ≤ G (77 + e) 4 ∧ G (77 + e) 4 < 40) (hpp : 0 ≤ G (77 + e) 5 ∧ G (77 + e) 5 < 4) (hk : 0 ≤ G 7 (G (77 + e) 4) ∧ G 7 (G (77 + e) 4) < 12) (ok : hb_ok G (G 34) (G 36) (G (77 + e) 1) (G (77 + e) 4) (G (77 + e) 5)) (hp : hb_tr (G 34)) (hG : hb_rg G) : hb_M l yX7_hang cX7_hang 5 (some .boolean) 2 0 0 [hb_r 33, hb_r (77 + e)] (hb_w G F na) (77 + na) (.inl (some (hb_i (1)))) (hb_w (hb_pt G 33 (G (77 + e) 1) (G (77 + e) 4) (G (77 + e) 5)) F na) (77 + na) := by
  refine hb_M_in rfl rfl (by decide) rfl (Nat.le_of_ble_eq_true rfl) ?_
  intro E z0 σ0
  have l1 := hb_la_in (par := G 34) (u := G (77 + e) 1) 5 0 (G (77 + e) 4) (by omega)
  have l2 := hb_la_in (par := G 34) (u := hb_tp (G 34) 4 (G (77 + e) 4)) 5 0 (G (77 + e) 4) (by omega)
  have l3 := hb_ht_in (f := fun i => hb_la (G 34) (G (77 + e) 1) 5 0 i) (M := 5) (by omega) (fun i => by have := hb_la_in (par := G 34) (u := G (77 + e) 1) 5 0 i (by omega); omega) 40
  refine aw_ald1 dX7_hang_0 ?_
  refine aw_getf dX7_hang_1 hbf_X7_35 (hb_we he) rfl ?_
  refine aw_ipu2 dX7_hang_4 (by decide) ?_
  refine aw_ald1 dX7_hang_5 ?_
  refine aw_getf dX7_hang_6 hbf_X7_41 (hb_we he) rfl ?_
  refine aw_ipu3 dX7_hang_9 (by decide) ?_
  refine aw_ald1 dX7_hang_10 ?_
  refine aw_getf dX7_hang_11 hbf_X7_44 (hb_we he) rfl ?_
  refine aw_ipu4 dX7_hang_14 (by decide) ?_
  refine aw_ald0 dX7_hang_16 ?_
  refine aw_getf dX7_hang_17 hbf_X7_9 rfl rfl ?_
  refine aw_ild2 dX7_hang_20 ?_
  refine aw_iald dX7_hang_21 rfl (by constructor <;> omega) (by decide) ?_
  refine aw_iconst dX7_hang_22 ?_
  refine aw_icmp_ne (tg := 79) dX7_hang_23 (by decide) (by first | exact hG _ _ | (constructor <;> omega)) (by first | exact hG _ _ | (constructor <;> omega)) (fun c23 => absurd c23 (by rw [ok.1]; decide)) (fun c23 => ?_)
  refine aw_ald0 dX7_hang_26 ?_
  refine aw_getf dX7_hang_27 hbf_X7_18 rfl rfl ?_
  refine aw_ild3 dX7_hang_30 ?_
  refine aw_iconst dX7_hang_31 ?_
  refine aw_imul dX7_hang_32 ?_
  refine aw_ild4 dX7_hang_33 ?_
  refine aw_iadd dX7_hang_35 ?_
  refine aw_iald dX7_hang_36 rfl (by constructor <;> omega) (by decide) ?_
  refine aw_iconst dX7_hang_37 ?_
  refine aw_icmp_ne (tg := 79) dX7_hang_38 (by decide) (by first | exact hG _ _ | (constructor <;> omega)) (by first | exact hG _ _ | (constructor <;> omega)) (fun c38 => absurd c38 (by rw [ok.2.1]; decide)) (fun c38 => ?_)
  refine aw_ald0 dX7_hang_41 ?_
  refine aw_ild2 dX7_hang_42 ?_
  refine aw_ild3 dX7_hang_43 ?_
  refine aw_ild4 dX7_hang_44 ?_
  refine aw_V3v dX7_hang_46 (c_fits33 (by first | assumption | omega | (constructor <;> omega) | exact hG _ _) (by first | assumption | omega | (constructor <;> omega) | exact hG _ _) (by first | assumption | omega | (constructor <;> omega) | exact hG _ _) (by first | assumption | omega | (constructor <;> omega) | exact hG _ _) hG) rfl rfl hbY_X7_fits hbm_X7_46 hbi_X7_fits hbe_X7_X7_fits (Nat.le_of_ble_eq_true rfl) ⟨by decide, by decide⟩ (by decide) (by decide) ?_
  refine aw_ifb_eq (tg := 79) dX7_hang_49 (by decide) (fun c49 => absurd c49 (by exact fun h8 => h8 ok.2.2.1)) (fun c49 => ?_)
  refine aw_ald0 dX7_hang_52 ?_
  refine aw_ild2 dX7_hang_53 ?_
  refine aw_ild3 dX7_hang_54 ?_
  refine aw_V2v dX7_hang_55 (c_levelsAbove33 (by first | assumption | omega | (constructor <;> omega) | exact hG _ _) (by first | assumption | omega | (constructor <;> omega) | exact hG _ _) hp hG) rfl rfl hbY_X7_levelsAbove hbm_X7_50 hbi_X7_levelsAbove hbe_X7_X7_levelsAbove (Nat.le_of_ble_eq_true rfl) ⟨by decide, by decide⟩ (by decide) (by decide) ?_
  refine aw_iconst dX7_hang_58 ?_
  refine aw_icmp_ne (tg := 79) dX7_hang_59 (by decide) (by first | exact hG _ _ | (constructor <;> omega)) (by first | exact hG _ _ | (constructor <;> omega)) (fun c59 => absurd c59 (by rw [ok.2.2.2.1]; decide)) (fun c59 => ?_)
  refine aw_ald0 dX7_hang_62 ?_
  refine aw_ild3 dX7_hang_63 ?_
  refine aw_V1v dX7_hang_64 (c_depthOf33 (by first | assumption | omega | (constructor <;> omega) | exact hG _ _) hp hG) rfl rfl hbY_X7_depthOf hbm_X7_54 hbi_X7_depthOf hbe_X7_X7_depthOf (Nat.le_of_ble_eq_true rfl) ⟨by decide, by decide⟩ (by decide) (by decide) ?_
  refine aw_iconst dX7_hang_67 ?_
  refine aw_iadd dX7_hang_68 ?_
  refine aw_ald0 dX7_hang_69 ?_
  refine aw_ild2 dX7_hang_70 ?_
  refine aw_V1v dX7_hang_71 (c_heightOf33 (by first | assumption | omega | (constructor <;> omega) | exact hG _ _) hp hG) rfl rfl hbY_X7_heightOf hbm_X7_58 hbi_X7_heightOf hbe_X7_X7_heightOf (Nat.le_of_ble_eq_true rfl) ⟨by decide, by decide⟩ (by decide) (by decide) ?_
  refine aw_iadd dX7_hang_74 ?_
  refine aw_iconst dX7_hang_75 ?_
  refine aw_icmp_le (tg := 81) dX7_hang_76 (by decide) (by first | exact hG _ _ | (constructor <;> omega)) (by first | exact hG _ _ | (constructor <;> omega)) (fun c76 => ?_) (fun c76 => absurd c76 (by exact fun h8 => absurd ok.2.2.2.2 (by omega)))
  refine aw_ald0 dX7_hang_81 ?_
  refine aw_getf dX7_hang_82 hbf_X7_9 rfl rfl ?_
  refine aw_ild2 dX7_hang_85 ?_
  refine aw_ild3 dX7_hang_86 ?_
  refine aw_iastw dX7_hang_87 (fun _ => rfl) rfl (by constructor <;> omega) (by decide) ?_
  refine aw_ald0 dX7_hang_88 ?_
  refine aw_getf dX7_hang_89 hbf_X7_15 rfl rfl ?_
  refine aw_ild2 dX7_hang_92 ?_
  refine aw_ild4 dX7_hang_93 ?_
  refine aw_iastw dX7_hang_95 (fun _ => rfl) rfl (by constructor <;> omega) (by decide) ?_
  refine aw_ald0 dX7_hang_96 ?_
  refine aw_getf dX7_hang_97 hbf_X7_18 rfl rfl ?_
  refine aw_ild3 dX7_hang_100 ?_
  refine aw_iconst dX7_hang_101 ?_
  refine aw_imul dX7_hang_102 ?_
  refine aw_ild4 dX7_hang_103 ?_
  refine aw_iadd dX7_hang_105 ?_
  refine aw_ild2 dX7_hang_106 ?_
  refine aw_iastw dX7_hang_107 (fun _ => rfl) rfl (by constructor <;> omega) (by decide) ?_
  refine aw_iconst dX7_hang_108 ?_
  exact aw_zret dX7_hang_109 rfl (by first | omega | exact hb_b01 _) (by rfl) rfl rfl (by decide) (by decide)
set_option maxRecDepth 20000 in
set_option maxHeartbeats 1000000 in
theorem c_hangN33 {l : Launch} {G : hb_G} {F : hb_F} {na : Nat} {e : Nat} (he : e < na) (ht : 0 ≤ G (77 + e) 1 ∧ G (77 + e) 1 < 40) (ha : 0 ≤ G (77 + e) 4 ∧ G (77 + e) 4 < 40) (hpp : 0 ≤ G (77 + e) 5 ∧ G (77 + e) 5 < 4) (hk : 0 ≤ G 7 (G (77 + e) 4) ∧ G 7 (G (77 + e) 4) < 12) (nok : ¬ hb_ok G (G 34) (G 36) (G (77 + e) 1) (G (77 + e) 4) (G (77 + e) 5)) (hp : hb_tr (G 34)) (hG : hb_rg G) : hb_M l yX7_hang cX7_hang 5 (some .boolean) 2 0 0 [hb_r 33, hb_r (77 + e)] (hb_w G F na) (77 + na) (.inl (some (hb_i (0)))) (hb_w G F na) (77 + na) := by
  refine hb_M_in rfl rfl (by decide) rfl (Nat.le_of_ble_eq_true rfl) ?_
  intro E z0 σ0
  have l1 := hb_la_in (par := G 34) (u := G (77 + e) 1) 5 0 (G (77 + e) 4) (by omega)
  have l2 := hb_la_in (par := G 34) (u := hb_tp (G 34) 4 (G (77 + e) 4)) 5 0 (G (77 + e) 4) (by omega)
  have l3 := hb_ht_in (f := fun i => hb_la (G 34) (G (77 + e) 1) 5 0 i) (M := 5) (by omega) (fun i => by have := hb_la_in (par := G 34) (u := G (77 + e) 1) 5 0 i (by omega); omega) 40
  refine aw_ald1 dX7_hang_0 ?_
  refine aw_getf dX7_hang_1 hbf_X7_35 (hb_we he) rfl ?_
  refine aw_ipu2 dX7_hang_4 (by decide) ?_
  refine aw_ald1 dX7_hang_5 ?_
  refine aw_getf dX7_hang_6 hbf_X7_41 (hb_we he) rfl ?_
  refine aw_ipu3 dX7_hang_9 (by decide) ?_
  refine aw_ald1 dX7_hang_10 ?_
  refine aw_getf dX7_hang_11 hbf_X7_44 (hb_we he) rfl ?_
  refine aw_ipu4 dX7_hang_14 (by decide) ?_
  refine aw_ald0 dX7_hang_16 ?_
  refine aw_getf dX7_hang_17 hbf_X7_9 rfl rfl ?_
  refine aw_ild2 dX7_hang_20 ?_
  refine aw_iald dX7_hang_21 rfl (by constructor <;> omega) (by decide) ?_
  refine aw_iconst dX7_hang_22 ?_
  refine aw_icmp_ne (tg := 79) dX7_hang_23 (by decide) (by first | exact hG _ _ | (constructor <;> omega)) (by first | exact hG _ _ | (constructor <;> omega)) (fun c23 => ?_) (fun c23 => ?_)
  · skip
    refine aw_iconst dX7_hang_79 ?_
    exact aw_zret dX7_hang_80 rfl (by first | omega | exact hb_b01 _) (by rfl) rfl rfl (by decide) (by decide)
  · skip
    refine aw_ald0 dX7_hang_26 ?_
    refine aw_getf dX7_hang_27 hbf_X7_18 rfl rfl ?_
    refine aw_ild3 dX7_hang_30 ?_
    refine aw_iconst dX7_hang_31 ?_
    refine aw_imul dX7_hang_32 ?_
    refine aw_ild4 dX7_hang_33 ?_
    refine aw_iadd dX7_hang_35 ?_
    refine aw_iald dX7_hang_36 rfl (by constructor <;> omega) (by decide) ?_
    refine aw_iconst dX7_hang_37 ?_
    refine aw_icmp_ne (tg := 79) dX7_hang_38 (by decide) (by first | exact hG _ _ | (constructor <;> omega)) (by first | exact hG _ _ | (constructor <;> omega)) (fun c38 => ?_) (fun c38 => ?_)
    · skip
      refine aw_iconst dX7_hang_79 ?_
      exact aw_zret dX7_hang_80 rfl (by first | omega | exact hb_b01 _) (by rfl) rfl rfl (by decide) (by decide)
    · skip
      refine aw_ald0 dX7_hang_41 ?_
      refine aw_ild2 dX7_hang_42 ?_
      refine aw_ild3 dX7_hang_43 ?_
      refine aw_ild4 dX7_hang_44 ?_
      refine aw_V3v dX7_hang_46 (c_fits33 (by first | assumption | omega | (constructor <;> omega) | exact hG _ _) (by first | assumption | omega | (constructor <;> omega) | exact hG _ _) (by first | assumption | omega | (constructor <;> omega) | exact hG _ _) (by first | assumption | omega | (constructor <;> omega) | exact hG _ _) hG) rfl rfl hbY_X7_fits hbm_X7_46 hbi_X7_fits hbe_X7_X7_fits (Nat.le_of_ble_eq_true rfl) ⟨by decide, by decide⟩ (by decide) (by decide) ?_
      refine aw_ifb_eq (tg := 79) dX7_hang_49 (by decide) (fun c49 => ?_) (fun c49 => ?_)
      · skip
        refine aw_iconst dX7_hang_79 ?_
        exact aw_zret dX7_hang_80 rfl (by first | omega | exact hb_b01 _) (by rfl) rfl rfl (by decide) (by decide)
      · skip
        refine aw_ald0 dX7_hang_52 ?_
        refine aw_ild2 dX7_hang_53 ?_
        refine aw_ild3 dX7_hang_54 ?_
        refine aw_V2v dX7_hang_55 (c_levelsAbove33 (by first | assumption | omega | (constructor <;> omega) | exact hG _ _) (by first | assumption | omega | (constructor <;> omega) | exact hG _ _) hp hG) rfl rfl hbY_X7_levelsAbove hbm_X7_50 hbi_X7_levelsAbove hbe_X7_X7_levelsAbove (Nat.le_of_ble_eq_true rfl) ⟨by decide, by decide⟩ (by decide) (by decide) ?_
        refine aw_iconst dX7_hang_58 ?_
        refine aw_icmp_ne (tg := 79) dX7_hang_59 (by decide) (by first | exact hG _ _ | (constructor <;> omega)) (by first | exact hG _ _ | (constructor <;> omega)) (fun c59 => ?_) (fun c59 => ?_)
        · skip
          refine aw_iconst dX7_hang_79 ?_
          exact aw_zret dX7_hang_80 rfl (by first | omega | exact hb_b01 _) (by rfl) rfl rfl (by decide) (by decide)
        · skip
          refine aw_ald0 dX7_hang_62 ?_
          refine aw_ild3 dX7_hang_63 ?_
          refine aw_V1v dX7_hang_64 (c_depthOf33 (by first | assumption | omega | (constructor <;> omega) | exact hG _ _) hp hG) rfl rfl hbY_X7_depthOf hbm_X7_54 hbi_X7_depthOf hbe_X7_X7_depthOf (Nat.le_of_ble_eq_true rfl) ⟨by decide, by decide⟩ (by decide) (by decide) ?_
          refine aw_iconst dX7_hang_67 ?_
          refine aw_iadd dX7_hang_68 ?_
          refine aw_ald0 dX7_hang_69 ?_
          refine aw_ild2 dX7_hang_70 ?_
          refine aw_V1v dX7_hang_71 (c_heightOf33 (by first | assumption | omega | (constructor <;> omega) | exact hG _ _) hp hG) rfl rfl hbY_X7_heightOf hbm_X7_58 hbi_X7_heightOf hbe_X7_X7_heightOf (Nat.le_of_ble_eq_true rfl) ⟨by decide, by decide⟩ (by decide) (by decide) ?_
          refine aw_iadd dX7_hang_74 ?_
          refine aw_iconst dX7_hang_75 ?_
          refine aw_icmp_le (tg := 81) dX7_hang_76 (by decide) (by first | exact hG _ _ | (constructor <;> omega)) (by first | exact hG _ _ | (constructor <;> omega)) (fun c76 => absurd c76 (by exact fun h8 => nok ⟨by omega, by omega, by assumption, by omega, h8⟩)) (fun c76 => ?_)
          refine aw_iconst dX7_hang_79 ?_
          exact aw_zret dX7_hang_80 rfl (by first | omega | exact hb_b01 _) (by rfl) rfl rfl (by decide) (by decide)
set_option maxRecDepth 20000 in
set_option maxHeartbeats 1000000 in
theorem c_unhangY33 {l : Launch} {G : hb_G} {F : hb_F} {na : Nat} {t : Int} (ht : 0 ≤ t ∧ t < 40) (ok : G 34 t ≠ -1) (hpl : 0 ≤ G 35 t ∧ G 35 t < 4) (hp : hb_tr (G 34)) (hG : hb_rg G) : hb_M l yX7_unhang cX7_unhang 2 (some .boolean) 0 0 0 [hb_r 33, hb_i t] (hb_w G F na) (77 + na) (.inl (some (hb_i (1)))) (hb_w (hb_tk G 33 t) F na) (77 + na) := by
  refine hb_M_in rfl rfl (by decide) rfl (Nat.le_of_ble_eq_true rfl) ?_
  intro E z0 σ0
  have h8 := hp t ht
  refine aw_ald0 dX7_unhang_0 ?_
  refine aw_getf dX7_unhang_1 hbf_X7_9 rfl rfl ?_
  refine aw_ild1 dX7_unhang_4 ?_
  refine aw_iald dX7_unhang_5 rfl (by constructor <;> omega) (by decide) ?_
  refine aw_iconst dX7_unhang_6 ?_
  refine aw_icmp_ne (tg := 12) dX7_unhang_7 (by decide) (by first | exact hG _ _ | (constructor <;> omega)) (by first | exact hG _ _ | (constructor <;> omega)) (fun c7 => ?_) (fun c7 => absurd c7 (by omega))
  refine aw_ald0 dX7_unhang_12 ?_
  refine aw_getf dX7_unhang_13 hbf_X7_18 rfl rfl ?_
  refine aw_ald0 dX7_unhang_16 ?_
  refine aw_getf dX7_unhang_17 hbf_X7_9 rfl rfl ?_
  refine aw_ild1 dX7_unhang_20 ?_
  refine aw_iald dX7_unhang_21 rfl (by constructor <;> omega) (by decide) ?_
  refine aw_iconst dX7_unhang_22 ?_
  refine aw_imul dX7_unhang_23 ?_
  refine aw_ald0 dX7_unhang_24 ?_
  refine aw_getf dX7_unhang_25 hbf_X7_15 rfl rfl ?_
  refine aw_ild1 dX7_unhang_28 ?_
  refine aw_iald dX7_unhang_29 rfl (by constructor <;> omega) (by decide) ?_
  refine aw_iadd dX7_unhang_30 ?_
  refine aw_iconst dX7_unhang_31 ?_
  refine aw_iastw dX7_unhang_32 (fun _ => rfl) rfl (by constructor <;> omega) (by decide) ?_
  refine aw_ald0 dX7_unhang_33 ?_
  refine aw_getf dX7_unhang_34 hbf_X7_9 rfl rfl ?_
  refine aw_ild1 dX7_unhang_37 ?_
  refine aw_iconst dX7_unhang_38 ?_
  refine aw_iastw dX7_unhang_39 (fun _ => rfl) rfl (by constructor <;> omega) (by decide) ?_
  refine aw_ald0 dX7_unhang_40 ?_
  refine aw_getf dX7_unhang_41 hbf_X7_15 rfl rfl ?_
  refine aw_ild1 dX7_unhang_44 ?_
  refine aw_iconst dX7_unhang_45 ?_
  refine aw_iastw dX7_unhang_46 (fun _ => rfl) rfl (by constructor <;> omega) (by decide) ?_
  refine aw_iconst dX7_unhang_47 ?_
  exact aw_zret dX7_unhang_48 rfl (by first | omega | exact hb_b01 _) (by rfl) rfl rfl (by decide) (by decide)
set_option maxRecDepth 20000 in
set_option maxHeartbeats 1000000 in
theorem c_unhangN33 {l : Launch} {G : hb_G} {F : hb_F} {na : Nat} {t : Int} (ht : 0 ≤ t ∧ t < 40) (nok : G 34 t = -1) (hG : hb_rg G) : hb_M l yX7_unhang cX7_unhang 2 (some .boolean) 0 0 0 [hb_r 33, hb_i t] (hb_w G F na) (77 + na) (.inl (some (hb_i (0)))) (hb_w G F na) (77 + na) := by
  refine hb_M_in rfl rfl (by decide) rfl (Nat.le_of_ble_eq_true rfl) ?_
  intro E z0 σ0
  refine aw_ald0 dX7_unhang_0 ?_
  refine aw_getf dX7_unhang_1 hbf_X7_9 rfl rfl ?_
  refine aw_ild1 dX7_unhang_4 ?_
  refine aw_iald dX7_unhang_5 rfl (by constructor <;> omega) (by decide) ?_
  refine aw_iconst dX7_unhang_6 ?_
  refine aw_icmp_ne (tg := 12) dX7_unhang_7 (by decide) (by first | exact hG _ _ | (constructor <;> omega)) (by first | exact hG _ _ | (constructor <;> omega)) (fun c7 => absurd c7 (by omega)) (fun c7 => ?_)
  refine aw_iconst dX7_unhang_10 ?_
  exact aw_zret dX7_unhang_11 rfl (by first | omega | exact hb_b01 _) (by rfl) rfl rfl (by decide) (by decide)
def hb_ta (G : hb_G) (t k m c d : Int) : hb_G := hb_u2 (hb_u2 (hb_u2 (hb_u2 (hb_u2 G 7 t k) 9 t m) 10 t c) 11 t d) 6 4 (G 6 4 + 1)
set_option maxRecDepth 20000 in
set_option maxHeartbeats 1000000 in
theorem c_thingsAdd {l : Launch} {G : hb_G} {F : hb_F} {na : Nat} {t k m c d : Int} (ht : 0 ≤ t ∧ t < 40) : hb_M l yX6_add cX6_add 6 none 0 0 0 [hb_r 6, hb_i t, hb_i k, hb_i m, hb_i c, hb_i d] (hb_w G F na) (77 + na) (.inl none) (hb_w (hb_ta G t k m c d) F na) (77 + na) := by
  refine hb_M_in rfl rfl (by decide) rfl (Nat.le_of_ble_eq_true rfl) ?_
  intro E z0 σ0
  refine aw_ald0 dX6_add_0 ?_
  refine aw_getf dX6_add_1 hbf_X6_9 rfl rfl ?_
  refine aw_ild1 dX6_add_4 ?_
  refine aw_ild2 dX6_add_5 ?_
  refine aw_iastw dX6_add_6 (fun _ => rfl) rfl (by constructor <;> omega) (by decide) ?_
  refine aw_ald0 dX6_add_7 ?_
  refine aw_getf dX6_add_8 hbf_X6_17 rfl rfl ?_
  refine aw_iconst dX6_add_11 ?_
  refine aw_gald (r := some 9) dX6_add_12 rfl (by constructor <;> omega) (by decide) rfl ?_
  refine aw_ild1 dX6_add_13 ?_
  refine aw_ild3 dX6_add_14 ?_
  refine aw_iastw dX6_add_15 (fun _ => rfl) rfl (by constructor <;> omega) (by decide) ?_
  refine aw_ald0 dX6_add_16 ?_
  refine aw_getf dX6_add_17 hbf_X6_17 rfl rfl ?_
  refine aw_iconst dX6_add_20 ?_
  refine aw_gald (r := some 10) dX6_add_21 rfl (by constructor <;> omega) (by decide) rfl ?_
  refine aw_ild1 dX6_add_22 ?_
  refine aw_ild4 dX6_add_23 ?_
  refine aw_iastw dX6_add_25 (fun _ => rfl) rfl (by constructor <;> omega) (by decide) ?_
  refine aw_ald0 dX6_add_26 ?_
  refine aw_getf dX6_add_27 hbf_X6_20 rfl rfl ?_
  refine aw_ild1 dX6_add_30 ?_
  refine aw_ild5 dX6_add_31 ?_
  refine aw_iastw dX6_add_33 (fun _ => rfl) rfl (by constructor <;> omega) (by decide) ?_
  refine aw_ald0 dX6_add_34 ?_
  refine aw_dup dX6_add_35 rfl ?_
  refine aw_getf dX6_add_36 hbf_X6_46 rfl rfl ?_
  refine aw_iconst dX6_add_39 ?_
  refine aw_iadd dX6_add_40 ?_
  refine aw_putw dX6_add_41 hbf_X6_46 hbS_X6 (fun C T n h9 => by cases h9; exact ⟨rfl, by decide +kernel, fun h8 => by cases h8⟩) rfl rfl rfl ?_
  exact aw_vret dX6_add_44 rfl rfl rfl rfl (by decide) (by decide)
def hb_ts (G : hb_G) (t k m c d w : Int) : hb_G := hb_u2 (hb_u2 (hb_u2 (hb_u2 (hb_u2 G 13 t k) 15 t m) 16 t c) 17 t d) 18 t w
set_option maxRecDepth 20000 in
set_option maxHeartbeats 1000000 in
theorem c_tasksSet {l : Launch} {G : hb_G} {F : hb_F} {na : Nat} {t k m c d w : Int} (ht : 0 ≤ t ∧ t < 16) : hb_M l yX5_set cX5_set 7 none 0 0 0 [hb_r 12, hb_i t, hb_i k, hb_i m, hb_i c, hb_i d, hb_i w] (hb_w G F na) (77 + na) (.inl none) (hb_w (hb_ts G t k m c d w) F na) (77 + na) := by
  refine hb_M_in rfl rfl (by decide) rfl (Nat.le_of_ble_eq_true rfl) ?_
  intro E z0 σ0
  refine aw_ald0 dX5_set_0 ?_
  refine aw_getf dX5_set_1 hbf_X5_9 rfl rfl ?_
  refine aw_ild1 dX5_set_4 ?_
  refine aw_ild2 dX5_set_5 ?_
  refine aw_iastw dX5_set_6 (fun _ => rfl) rfl (by constructor <;> omega) (by decide) ?_
  refine aw_ald0 dX5_set_7 ?_
  refine aw_getf dX5_set_8 hbf_X5_17 rfl rfl ?_
  refine aw_iconst dX5_set_11 ?_
  refine aw_gald (r := some 15) dX5_set_12 rfl (by constructor <;> omega) (by decide) rfl ?_
  refine aw_ild1 dX5_set_13 ?_
  refine aw_ild3 dX5_set_14 ?_
  refine aw_iastw dX5_set_15 (fun _ => rfl) rfl (by constructor <;> omega) (by decide) ?_
  refine aw_ald0 dX5_set_16 ?_
  refine aw_getf dX5_set_17 hbf_X5_17 rfl rfl ?_
  refine aw_iconst dX5_set_20 ?_
  refine aw_gald (r := some 16) dX5_set_21 rfl (by constructor <;> omega) (by decide) rfl ?_
  refine aw_ild1 dX5_set_22 ?_
  refine aw_ild4 dX5_set_23 ?_
  refine aw_iastw dX5_set_25 (fun _ => rfl) rfl (by constructor <;> omega) (by decide) ?_
  refine aw_ald0 dX5_set_26 ?_
  refine aw_getf dX5_set_27 hbf_X5_17 rfl rfl ?_
  refine aw_iconst dX5_set_30 ?_
  refine aw_gald (r := some 17) dX5_set_31 rfl (by constructor <;> omega) (by decide) rfl ?_
  refine aw_ild1 dX5_set_32 ?_
  refine aw_ild5 dX5_set_33 ?_
  refine aw_iastw dX5_set_35 (fun _ => rfl) rfl (by constructor <;> omega) (by decide) ?_
  refine aw_ald0 dX5_set_36 ?_
  refine aw_getf dX5_set_37 hbf_X5_20 rfl rfl ?_
  refine aw_ild1 dX5_set_40 ?_
  refine aw_ild6 dX5_set_41 ?_
  refine aw_iastw dX5_set_43 (fun _ => rfl) rfl (by constructor <;> omega) (by decide) ?_
  exact aw_vret dX5_set_44 rfl rfl rfl rfl (by decide) (by decide)
def hb_os (G : hb_G) (t k f l w r : Int) : hb_G := hb_u2 (hb_u2 (hb_u2 (hb_u2 (hb_u2 G 20 t k) 21 t f) 22 t l) 23 t w) 24 t r
set_option maxRecDepth 20000 in
set_option maxHeartbeats 1000000 in
theorem c_ordersSet {l : Launch} {G : hb_G} {F : hb_F} {na : Nat} {t k f g w r : Int} (ht : 0 ≤ t ∧ t < 8) : hb_M l yX3_set cX3_set 7 none 0 0 0 [hb_r 19, hb_i t, hb_i k, hb_i f, hb_i g, hb_i w, hb_i r] (hb_w G F na) (77 + na) (.inl none) (hb_w (hb_os G t k f g w r) F na) (77 + na) := by
  refine hb_M_in rfl rfl (by decide) rfl (Nat.le_of_ble_eq_true rfl) ?_
  intro E z0 σ0
  refine aw_ald0 dX3_set_0 ?_
  refine aw_getf dX3_set_1 hbf_X3_9 rfl rfl ?_
  refine aw_ild1 dX3_set_4 ?_
  refine aw_ild2 dX3_set_5 ?_
  refine aw_iastw dX3_set_6 (fun _ => rfl) rfl (by constructor <;> omega) (by decide) ?_
  refine aw_ald0 dX3_set_7 ?_
  refine aw_getf dX3_set_8 hbf_X3_15 rfl rfl ?_
  refine aw_ild1 dX3_set_11 ?_
  refine aw_ild3 dX3_set_12 ?_
  refine aw_iastw dX3_set_13 (fun _ => rfl) rfl (by constructor <;> omega) (by decide) ?_
  refine aw_ald0 dX3_set_14 ?_
  refine aw_getf dX3_set_15 hbf_X3_18 rfl rfl ?_
  refine aw_ild1 dX3_set_18 ?_
  refine aw_ild4 dX3_set_19 ?_
  refine aw_iastw dX3_set_21 (fun _ => rfl) rfl (by constructor <;> omega) (by decide) ?_
  refine aw_ald0 dX3_set_22 ?_
  refine aw_getf dX3_set_23 hbf_X3_21 rfl rfl ?_
  refine aw_ild1 dX3_set_26 ?_
  refine aw_ild5 dX3_set_27 ?_
  refine aw_iastw dX3_set_29 (fun _ => rfl) rfl (by constructor <;> omega) (by decide) ?_
  refine aw_ald0 dX3_set_30 ?_
  refine aw_getf dX3_set_31 hbf_X3_24 rfl rfl ?_
  refine aw_ild1 dX3_set_34 ?_
  refine aw_ild6 dX3_set_35 ?_
  refine aw_iastw dX3_set_37 (fun _ => rfl) rfl (by constructor <;> omega) (by decide) ?_
  exact aw_vret dX3_set_38 rfl rfl rfl rfl (by decide) (by decide)
set_option maxRecDepth 20000 in
set_option maxHeartbeats 1000000 in
theorem c_isFor {l : Launch} {G : hb_G} {F : hb_F} {na : Nat} {o9 t k : Int} (ho : 0 ≤ o9 ∧ o9 < 8) (ht : hb_in t) (hk : hb_in k) (hG : hb_rg G) : hb_M l yX3_isFor cX3_isFor 4 (some .boolean) 0 0 0 [hb_r 19, hb_i o9, hb_i t, hb_i k] (hb_w G F na) (77 + na) (.inl (some (hb_i (hb_b (G 20 o9 = k ∧ G 21 o9 ≤ t ∧ t ≤ G 22 o9))))) (hb_w G F na) (77 + na) := by
  refine hb_M_in rfl rfl (by decide) rfl (Nat.le_of_ble_eq_true rfl) ?_
  intro E z0 σ0
  refine aw_ald0 dX3_isFor_0 ?_
  refine aw_getf dX3_isFor_1 hbf_X3_9 rfl rfl ?_
  refine aw_ild1 dX3_isFor_4 ?_
  refine aw_iald dX3_isFor_5 rfl (by constructor <;> omega) (by decide) ?_
  refine aw_ild3 dX3_isFor_6 ?_
  refine aw_icmp_ne (tg := 34) dX3_isFor_7 (by decide) (by first | exact hG _ _ | assumption | (constructor <;> omega)) (by first | exact hG _ _ | assumption | (constructor <;> omega)) (fun c7 => ?_) (fun c7 => ?_)
  · skip
    refine aw_iconst dX3_isFor_34 ?_
    exact aw_zret dX3_isFor_35 rfl (by first | omega | exact hb_b01 _) (by first | rfl | exact hb_oi1 (by omega) | exact hb_oi0 (by omega)) rfl rfl (by decide) (by decide)
  · skip
    refine aw_ild2 dX3_isFor_10 ?_
    refine aw_ald0 dX3_isFor_11 ?_
    refine aw_getf dX3_isFor_12 hbf_X3_15 rfl rfl ?_
    refine aw_ild1 dX3_isFor_15 ?_
    refine aw_iald dX3_isFor_16 rfl (by constructor <;> omega) (by decide) ?_
    refine aw_icmp_lt (tg := 34) dX3_isFor_17 (by decide) (by first | exact hG _ _ | assumption | (constructor <;> omega)) (by first | exact hG _ _ | assumption | (constructor <;> omega)) (fun c17 => ?_) (fun c17 => ?_)
    · skip
      refine aw_iconst dX3_isFor_34 ?_
      exact aw_zret dX3_isFor_35 rfl (by first | omega | exact hb_b01 _) (by first | rfl | exact hb_oi1 (by omega) | exact hb_oi0 (by omega)) rfl rfl (by decide) (by decide)
    · skip
      refine aw_ild2 dX3_isFor_20 ?_
      refine aw_ald0 dX3_isFor_21 ?_
      refine aw_getf dX3_isFor_22 hbf_X3_18 rfl rfl ?_
      refine aw_ild1 dX3_isFor_25 ?_
      refine aw_iald dX3_isFor_26 rfl (by constructor <;> omega) (by decide) ?_
      refine aw_icmp_gt (tg := 34) dX3_isFor_27 (by decide) (by first | exact hG _ _ | assumption | (constructor <;> omega)) (by first | exact hG _ _ | assumption | (constructor <;> omega)) (fun c27 => ?_) (fun c27 => ?_)
      · skip
        refine aw_iconst dX3_isFor_34 ?_
        exact aw_zret dX3_isFor_35 rfl (by first | omega | exact hb_b01 _) (by first | rfl | exact hb_oi1 (by omega) | exact hb_oi0 (by omega)) rfl rfl (by decide) (by decide)
      · skip
        refine aw_iconst dX3_isFor_30 ?_
        refine aw_goto (tg := 35) dX3_isFor_31 (by decide) ?_
        exact aw_zret dX3_isFor_35 rfl (by first | omega | exact hb_b01 _) (by first | rfl | exact hb_oi1 (by omega) | exact hb_oi0 (by omega)) rfl rfl (by decide) (by decide)
set_option maxRecDepth 20000 in
set_option maxHeartbeats 1000000 in
theorem c_graceOf0 {l : Launch} {G : hb_G} {F : hb_F} {na : Nat} {t : Int} (ht : 0 ≤ t ∧ t < 16) (hi : 0 ≤ G 15 t ∧ G 15 t ≤ 100000) (hw : 0 ≤ G 18 t ∧ G 18 t ≤ 500) (hG : hb_rg G) : hb_M l yX5_graceOf cX5_graceOf 3 (some .int) 0 0 0 [hb_r 12, hb_i t, hb_i 0] (hb_w G F na) (77 + na) (.inl (some (hb_i (G 15 t * G 18 t / 1000)))) (hb_w G F na) (77 + na) := by
  refine hb_M_in rfl rfl (by decide) rfl (Nat.le_of_ble_eq_true rfl) ?_
  intro E z0 σ0
  refine aw_ald0 dX5_graceOf_0 ?_
  refine aw_getf dX5_graceOf_1 hbf_X5_17 rfl rfl ?_
  refine aw_ild2 dX5_graceOf_4 ?_
  refine aw_gald (r := some 15) dX5_graceOf_5 rfl (by decide) (by decide) rfl ?_
  refine aw_ild1 dX5_graceOf_6 ?_
  refine aw_iald dX5_graceOf_7 rfl (by constructor <;> omega) (by decide) ?_
  refine aw_ald0 dX5_graceOf_8 ?_
  refine aw_getf dX5_graceOf_9 hbf_X5_20 rfl rfl ?_
  refine aw_ild1 dX5_graceOf_12 ?_
  refine aw_iald dX5_graceOf_13 rfl (by constructor <;> omega) (by decide) ?_
  refine aw_imul dX5_graceOf_14 ?_
  refine aw_sipush dX5_graceOf_15 (by decide) ?_
  refine aw_idiv dX5_graceOf_18 (hb_m5 hi hw).1 (by decide) (hb_m5 hi hw).2 (by decide) ?_
  exact aw_iret dX5_graceOf_19 rfl (by rfl) rfl rfl (by decide) (by decide)
set_option maxRecDepth 20000 in
set_option maxHeartbeats 1000000 in
theorem c_graceOf1 {l : Launch} {G : hb_G} {F : hb_F} {na : Nat} {t : Int} (ht : 0 ≤ t ∧ t < 16) (hi : 0 ≤ G 16 t ∧ G 16 t ≤ 100000) (hw : 0 ≤ G 18 t ∧ G 18 t ≤ 500) (hG : hb_rg G) : hb_M l yX5_graceOf cX5_graceOf 3 (some .int) 0 0 0 [hb_r 12, hb_i t, hb_i 1] (hb_w G F na) (77 + na) (.inl (some (hb_i (G 16 t * G 18 t / 1000)))) (hb_w G F na) (77 + na) := by
  refine hb_M_in rfl rfl (by decide) rfl (Nat.le_of_ble_eq_true rfl) ?_
  intro E z0 σ0
  refine aw_ald0 dX5_graceOf_0 ?_
  refine aw_getf dX5_graceOf_1 hbf_X5_17 rfl rfl ?_
  refine aw_ild2 dX5_graceOf_4 ?_
  refine aw_gald (r := some 16) dX5_graceOf_5 rfl (by decide) (by decide) rfl ?_
  refine aw_ild1 dX5_graceOf_6 ?_
  refine aw_iald dX5_graceOf_7 rfl (by constructor <;> omega) (by decide) ?_
  refine aw_ald0 dX5_graceOf_8 ?_
  refine aw_getf dX5_graceOf_9 hbf_X5_20 rfl rfl ?_
  refine aw_ild1 dX5_graceOf_12 ?_
  refine aw_iald dX5_graceOf_13 rfl (by constructor <;> omega) (by decide) ?_
  refine aw_imul dX5_graceOf_14 ?_
  refine aw_sipush dX5_graceOf_15 (by decide) ?_
  refine aw_idiv dX5_graceOf_18 (hb_m5 hi hw).1 (by decide) (hb_m5 hi hw).2 (by decide) ?_
  exact aw_iret dX5_graceOf_19 rfl (by rfl) rfl rfl (by decide) (by decide)
set_option maxRecDepth 20000 in
set_option maxHeartbeats 1000000 in
theorem c_graceOf2 {l : Launch} {G : hb_G} {F : hb_F} {na : Nat} {t : Int} (ht : 0 ≤ t ∧ t < 16) (hi : 0 ≤ G 17 t ∧ G 17 t ≤ 100000) (hw : 0 ≤ G 18 t ∧ G 18 t ≤ 500) (hG : hb_rg G) : hb_M l yX5_graceOf cX5_graceOf 3 (some .int) 0 0 0 [hb_r 12, hb_i t, hb_i 2] (hb_w G F na) (77 + na) (.inl (some (hb_i (G 17 t * G 18 t / 1000)))) (hb_w G F na) (77 + na) := by
  refine hb_M_in rfl rfl (by decide) rfl (Nat.le_of_ble_eq_true rfl) ?_
  intro E z0 σ0
  refine aw_ald0 dX5_graceOf_0 ?_
  refine aw_getf dX5_graceOf_1 hbf_X5_17 rfl rfl ?_
  refine aw_ild2 dX5_graceOf_4 ?_
  refine aw_gald (r := some 17) dX5_graceOf_5 rfl (by decide) (by decide) rfl ?_
  refine aw_ild1 dX5_graceOf_6 ?_
  refine aw_iald dX5_graceOf_7 rfl (by constructor <;> omega) (by decide) ?_
  refine aw_ald0 dX5_graceOf_8 ?_
  refine aw_getf dX5_graceOf_9 hbf_X5_20 rfl rfl ?_
  refine aw_ild1 dX5_graceOf_12 ?_
  refine aw_iald dX5_graceOf_13 rfl (by constructor <;> omega) (by decide) ?_
  refine aw_imul dX5_graceOf_14 ?_
  refine aw_sipush dX5_graceOf_15 (by decide) ?_
  refine aw_idiv dX5_graceOf_18 (hb_m5 hi hw).1 (by decide) (hb_m5 hi hw).2 (by decide) ?_
  exact aw_iret dX5_graceOf_19 rfl (by rfl) rfl rfl (by decide) (by decide)
set_option maxRecDepth 20000 in
set_option maxHeartbeats 1000000 in
theorem c_isLivingN {l : Launch} {G : hb_G} {F : hb_F} {na : Nat} {v : Int} (hv : hb_in v) (hm : G 25 3 ≤ 200) (hF : F 26 v = none) (hG : hb_rg G) : hb_M l yX0_isLiving cX0_isLiving 2 (some .boolean) 1 0 0 [hb_r 25, hb_i v] (hb_w G F na) (77 + na) (.inl (some (hb_i (hb_b ((0 ≤ v ∧ v < G 25 3) ∧ F 26 v ≠ none))))) (hb_w G F na) (77 + na) := by
  refine hb_M_in rfl rfl (by decide) rfl (Nat.le_of_ble_eq_true rfl) ?_
  intro E z0 σ0
  refine aw_ild1 dX0_isLiving_0 ?_
  refine aw_ald0 dX0_isLiving_1 ?_
  refine aw_getf dX0_isLiving_2 hbf_X0_29 rfl rfl ?_
  refine aw_N2v (host := RX8) dX0_isLiving_5 (c_isBelow (by first | assumption | omega | (constructor <;> omega) | exact hG _ _) (by first | assumption | omega | (constructor <;> omega) | exact hG _ _)) hbY_X8_isBelow (fun U h9 => h9.2.2.2.2.2.2.2.2) hbs_X8_isBelow (Nat.le_of_ble_eq_true rfl) ⟨by decide, by decide⟩ (by decide) (by decide) ?_
  refine aw_ifb_eq (tg := 24) dX0_isLiving_8 (by decide) (fun c8 => ?_) (fun c8 => ?_)
  · skip
    refine aw_iconst dX0_isLiving_24 ?_
    exact aw_zret dX0_isLiving_25 rfl (by first | omega | exact hb_b01 _) (by first | exact hb_oi1 ⟨by omega, by rw [hF]; exact fun h9 => by cases h9⟩ | exact hb_oi0 (fun h9 => absurd h9.1 (by assumption)) | exact hb_oi0 (fun h9 => h9.2 hF)) rfl rfl (by decide) (by decide)
  · skip
    refine aw_ald0 dX0_isLiving_11 ?_
    refine aw_getf dX0_isLiving_12 hbf_X0_11 rfl rfl ?_
    refine aw_ild1 dX0_isLiving_15 ?_
    refine aw_eald (r := none) dX0_isLiving_16 rfl (by constructor <;> omega) (by decide) hF ?_
    refine aw_ifnullN (tg := 24) dX0_isLiving_17 (by decide) ?_
    refine aw_iconst dX0_isLiving_24 ?_
    exact aw_zret dX0_isLiving_25 rfl (by first | omega | exact hb_b01 _) (by first | exact hb_oi1 ⟨by omega, by rw [hF]; exact fun h9 => by cases h9⟩ | exact hb_oi0 (fun h9 => absurd h9.1 (by assumption)) | exact hb_oi0 (fun h9 => h9.2 hF)) rfl rfl (by decide) (by decide)
set_option maxRecDepth 20000 in
set_option maxHeartbeats 1000000 in
theorem c_isLivingS {l : Launch} {G : hb_G} {F : hb_F} {na : Nat} {v : Int} {j : Nat} (hv : hb_in v) (hm : G 25 3 ≤ 200) (hF : F 26 v = some j) (hG : hb_rg G) : hb_M l yX0_isLiving cX0_isLiving 2 (some .boolean) 1 0 0 [hb_r 25, hb_i v] (hb_w G F na) (77 + na) (.inl (some (hb_i (hb_b ((0 ≤ v ∧ v < G 25 3) ∧ F 26 v ≠ none))))) (hb_w G F na) (77 + na) := by
  refine hb_M_in rfl rfl (by decide) rfl (Nat.le_of_ble_eq_true rfl) ?_
  intro E z0 σ0
  refine aw_ild1 dX0_isLiving_0 ?_
  refine aw_ald0 dX0_isLiving_1 ?_
  refine aw_getf dX0_isLiving_2 hbf_X0_29 rfl rfl ?_
  refine aw_N2v (host := RX8) dX0_isLiving_5 (c_isBelow (by first | assumption | omega | (constructor <;> omega) | exact hG _ _) (by first | assumption | omega | (constructor <;> omega) | exact hG _ _)) hbY_X8_isBelow (fun U h9 => h9.2.2.2.2.2.2.2.2) hbs_X8_isBelow (Nat.le_of_ble_eq_true rfl) ⟨by decide, by decide⟩ (by decide) (by decide) ?_
  refine aw_ifb_eq (tg := 24) dX0_isLiving_8 (by decide) (fun c8 => ?_) (fun c8 => ?_)
  · skip
    refine aw_iconst dX0_isLiving_24 ?_
    exact aw_zret dX0_isLiving_25 rfl (by first | omega | exact hb_b01 _) (by first | exact hb_oi1 ⟨by omega, by rw [hF]; exact fun h9 => by cases h9⟩ | exact hb_oi0 (fun h9 => absurd h9.1 (by assumption)) | exact hb_oi0 (fun h9 => h9.2 hF)) rfl rfl (by decide) (by decide)
  · skip
    refine aw_ald0 dX0_isLiving_11 ?_
    refine aw_getf dX0_isLiving_12 hbf_X0_11 rfl rfl ?_
    refine aw_ild1 dX0_isLiving_15 ?_
    refine aw_eald (r := some j) dX0_isLiving_16 rfl (by constructor <;> omega) (by decide) hF ?_
    refine aw_ifnullR (tg := 24) dX0_isLiving_17 ?_
    refine aw_iconst dX0_isLiving_20 ?_
    refine aw_goto (tg := 25) dX0_isLiving_21 (by decide) ?_
    exact aw_zret dX0_isLiving_25 rfl (by first | omega | exact hb_b01 _) (by first | exact hb_oi1 ⟨by omega, by rw [hF]; exact fun h9 => by cases h9⟩ | exact hb_oi0 (fun h9 => absurd h9.1 (by assumption)) | exact hb_oi0 (fun h9 => h9.2 hF)) rfl rfl (by decide) (by decide)
theorem c_isLiving {l : Launch} {G : hb_G} {F : hb_F} {na : Nat} {v : Int} (hv : hb_in v) (hm : G 25 3 ≤ 200) (hG : hb_rg G) : hb_M l yX0_isLiving cX0_isLiving 2 (some .boolean) 1 0 0 [hb_r 25, hb_i v] (hb_w G F na) (77 + na) (.inl (some (hb_i (hb_b ((0 ≤ v ∧ v < G 25 3) ∧ F 26 v ≠ none))))) (hb_w G F na) (77 + na) := by
  rcases (show F 26 v = none ∨ ∃ j, F 26 v = some j by cases F 26 v with | none => exact Or.inl rfl | some j => exact Or.inr ⟨j, rfl⟩) with hF | ⟨j, hF⟩
  · exact c_isLivingN hv hm hF hG
  · exact c_isLivingS hv hm hF hG
/-- the entries in time: n of them, the k-th is the object jx k -/
def hb_tm (F : hb_F) (na : Nat) (n : Int) (jx : Int → Nat) : Prop := 0 ≤ n ∧ n ≤ 200 ∧ ∀ k, 0 ≤ k ∧ k < n → F 27 k = some (77 + jx k) ∧ jx k < na
set_option maxRecDepth 20000 in
set_option maxHeartbeats 1000000 in
theorem c_hasMoveAt {l : Launch} {G : hb_G} {F : hb_F} {na : Nat} {pt : Int} {jx : Int → Nat} (hpt : hb_in pt) (htm : hb_tm F na (G 25 4) jx) (hG : hb_rg G) : hb_M l yX0_hasMoveAt cX0_hasMoveAt 3 (some .boolean) 1 0 0 [hb_r 25, hb_i pt] (hb_w G F na) (77 + na) (.inl (some (hb_i (hb_b (∃ k, 0 ≤ k ∧ k < G 25 4 ∧ G (77 + jx k) 2 = pt ∧ (G (77 + jx k) 0 = 0 ∨ G (77 + jx k) 0 = 1)))))) (hb_w G F na) (77 + na) := by
  refine hb_M_in rfl rfl (by decide) rfl (Nat.le_of_ble_eq_true rfl) ?_
  intro E z0 σ0
  have key : ∀ (n : Nat) (k : Int), 0 ≤ k → k ≤ G 25 4 → G 25 4 - k < n → (∀ j, 0 ≤ j → j < k → ¬ (G (77 + jx j) 2 = pt ∧ (G (77 + jx j) 0 = 0 ∨ G (77 + jx j) 0 = 1))) → hb_W l RX0 cX0_hasMoveAt 3 (some .boolean) "hasMoveAt" [] E z0 (hb_rm 1 0 0) σ0 (77 + na) (.inl (some (hb_i (hb_b (∃ k, 0 ≤ k ∧ k < G 25 4 ∧ G (77 + jx k) 2 = pt ∧ (G (77 + jx k) 0 = 0 ∨ G (77 + jx k) 0 = 1)))))) (hb_w G F na) (77 + na) 0 0 2 [hb_r 25, hb_i pt, hb_i k] [] (hb_w G F na) (77 + na) := by
    intro n
    induction n with
    | zero => intro k h1 h2 h3; omega
    | succ n ih =>
      intro k h1 h2 h3 hno
      have htm1 := htm.1
      have htm2 := htm.2.1
      refine aw_ild2 dX0_hasMoveAt_2 ?_
      refine aw_ald0 dX0_hasMoveAt_3 ?_
      refine aw_getf dX0_hasMoveAt_4 hbf_X0_61 rfl rfl ?_
      refine aw_icmp_ge (tg := 43) dX0_hasMoveAt_7 (by decide) (by first | exact hG _ _ | assumption | (constructor <;> omega)) (by first | exact hG _ _ | assumption | (constructor <;> omega)) (fun c7 => ?_) (fun c7 => ?_)
      · skip
        refine aw_iconst dX0_hasMoveAt_43 ?_
        exact aw_zret dX0_hasMoveAt_44 rfl (by first | omega | exact hb_b01 _) (by first | exact hb_oi1 ⟨k, by omega, by omega, by omega, by assumption⟩ | exact hb_oi0 (fun ⟨j, j1, j2, j3, j4⟩ => hno j j1 (by omega) ⟨j3, j4⟩)) rfl rfl (by decide) (by decide)
      · skip
        have hk := htm.2.2 k (by omega)
        refine aw_ald0 dX0_hasMoveAt_10 ?_
        refine aw_getf dX0_hasMoveAt_11 hbf_X0_17 rfl rfl ?_
        refine aw_ild2 dX0_hasMoveAt_14 ?_
        refine aw_eald (r := some (77 + jx k)) dX0_hasMoveAt_15 rfl (by constructor <;> omega) (by decide) hk.1 ?_
        refine aw_getf dX0_hasMoveAt_16 hbf_X0_41 (hb_we hk.2) rfl ?_
        refine aw_ild1 dX0_hasMoveAt_19 ?_
        refine aw_icmp_ne (tg := 37) dX0_hasMoveAt_20 (by decide) (by first | exact hG _ _ | assumption | (constructor <;> omega)) (by first | exact hG _ _ | assumption | (constructor <;> omega)) (fun c20 => ?_) (fun c20 => ?_)
        · skip
          refine aw_iinc2 dX0_hasMoveAt_37 (by decide) ?_
          refine aw_goto (tg := 2) dX0_hasMoveAt_40 (by decide) ?_
          exact ih (k + 1) (by omega) (by omega) (by omega) (fun j j1 j2 j3 => by rcases (show j < k ∨ j = k by omega) with h9 | h9; exact hno j j1 h9 j3; subst h9; first | (exact absurd j3.1 (by assumption)) | (exact absurd j3.2 (by assumption)))
        · skip
          refine aw_ald0 dX0_hasMoveAt_23 ?_
          refine aw_getf dX0_hasMoveAt_24 hbf_X0_17 rfl rfl ?_
          refine aw_ild2 dX0_hasMoveAt_27 ?_
          refine aw_eald (r := some (77 + jx k)) dX0_hasMoveAt_28 rfl (by constructor <;> omega) (by decide) hk.1 ?_
          refine aw_V0v dX0_hasMoveAt_29 (c_isMove hk.2 hG) (hb_we hk.2) rfl hbY_X1_isMove hbm_X0_37 hbi_X1_isMove hbe_X1_X1_isMove (Nat.le_of_ble_eq_true rfl) ⟨by decide, by decide⟩ (by decide) (by decide) ?_
          refine aw_ifb_eq (tg := 37) dX0_hasMoveAt_32 (by decide) (fun c32 => ?_) (fun c32 => ?_)
          · skip
            refine aw_iinc2 dX0_hasMoveAt_37 (by decide) ?_
            refine aw_goto (tg := 2) dX0_hasMoveAt_40 (by decide) ?_
            exact ih (k + 1) (by omega) (by omega) (by omega) (fun j j1 j2 j3 => by rcases (show j < k ∨ j = k by omega) with h9 | h9; exact hno j j1 h9 j3; subst h9; first | (exact absurd j3.1 (by assumption)) | (exact absurd j3.2 (by assumption)))
          · skip
            refine aw_iconst dX0_hasMoveAt_35 ?_
            exact aw_zret dX0_hasMoveAt_36 rfl (by first | omega | exact hb_b01 _) (by first | exact hb_oi1 ⟨k, by omega, by omega, by omega, by assumption⟩ | exact hb_oi0 (fun ⟨j, j1, j2, j3, j4⟩ => hno j j1 (by omega) ⟨j3, j4⟩)) rfl rfl (by decide) (by decide)
  refine aw_iconst dX0_hasMoveAt_0 ?_
  refine aw_ipu2 dX0_hasMoveAt_1 (by decide) ?_
  exact key ((G 25 4).toNat + 1) 0 (by omega) htm.1 (by have := htm.1; omega) (fun j j1 j2 => by omega)
def hb_sh (f : Int → Option Nat) (n k : Int) : Int → Option Nat := fun x => if k < x ∧ x ≤ n then f (x - 1) else f x
/-- w comes in at place i of the first n -/
def hb_is (f : Int → Option Nat) (n i : Int) (w : Option Nat) : Int → Option Nat := fun x => if x = i then w else if i < x ∧ x ≤ n then f (x - 1) else f x
/-- the one at place i goes out of the first n -/
def hb_rv (f : Int → Option Nat) (i m : Int) : Int → Option Nat := fun x => if i ≤ x ∧ x < m then f (x + 1) else f x
theorem hb_sh_n (f : Int → Option Nat) (n : Int) : hb_sh f n n = f := by
  funext x
  unfold hb_sh
  rw [if_neg (by omega)]
theorem hb_sh_s (f : Int → Option Nat) (n k : Int) (hk : k ≤ n) : hb_uf (hb_sh f n k) k (f (k - 1)) = hb_sh f n (k - 1) := by
  funext x
  unfold hb_uf hb_sh
  by_cases e : x = k
  · subst e
    rw [if_pos rfl, if_pos (by omega)]
  · rw [if_neg e]
    by_cases e2 : k < x ∧ x ≤ n
    · rw [if_pos e2, if_pos (by omega)]
    · rw [if_neg e2, if_neg (by omega)]
theorem hb_sh_e (f : Int → Option Nat) (n i : Int) (w : Option Nat) : hb_uf (hb_sh f n i) i w = hb_is f n i w := by
  funext x
  unfold hb_uf hb_sh hb_is
  by_cases e : x = i
  · simp only [if_pos e]
  · simp only [if_neg e]
theorem hb_rv_0 (f : Int → Option Nat) (i m : Int) (h : m ≤ i) : hb_rv f i m = f := by
  funext x
  unfold hb_rv
  rw [if_neg (by omega)]
theorem hb_rv_s (f : Int → Option Nat) (i m : Int) (h : i ≤ m) : hb_uf (hb_rv f i m) m (f (m + 1)) = hb_rv f i (m + 1) := by
  funext x
  unfold hb_uf hb_rv
  by_cases e : x = m
  · subst e
    rw [if_pos rfl, if_pos (by omega)]
  · rw [if_neg e]
    by_cases e2 : i ≤ x ∧ x < m
    · rw [if_pos e2, if_pos (by omega)]
    · rw [if_neg e2, if_neg (by omega)]
theorem hb_uf_id {α : Type} (f : Int → α) (i : Int) : hb_uf f i (f i) = f := by
  funext x
  unfold hb_uf
  by_cases e : x = i
  · rw [if_pos e, e]
  · rw [if_neg e]
theorem hb_v1_v1 (F : hb_F) (q : Nat) (f g : Int → Option Nat) : hb_v1 (hb_v1 F q f) q g = hb_v1 F q g := by
  funext p
  unfold hb_v1
  by_cases e : p = q
  · rw [if_pos e, if_pos e]
  · rw [if_neg e, if_neg e, if_neg e]
theorem hb_v1_s (F : hb_F) (q : Nat) (f : Int → Option Nat) : hb_v1 F q f q = f := by unfold hb_v1; rw [if_pos rfl]
theorem hb_v1_n {F : hb_F} {q p : Nat} {f : Int → Option Nat} (e : p ≠ q) : hb_v1 F q f p = F p := by unfold hb_v1; rw [if_neg e]
theorem hb_v1_id (F : hb_F) (q : Nat) : hb_v1 F q (F q) = F := by
  funext p
  unfold hb_v1
  by_cases e : p = q
  · rw [if_pos e, e]
  · rw [if_neg e]
theorem hb_v2_v1 (F : hb_F) (q : Nat) (f : Int → Option Nat) (i : Int) (v : Option Nat) : hb_v2 (hb_v1 F q f) q i v = hb_v1 F q (hb_uf f i v) := by
  unfold hb_v2
  rw [hb_v1_v1, hb_v1_s]
section HBT3
variable {l : Launch} {own : String} {cc : ByteArray} {nL : Nat} {ret : Option FieldType} {nm : String} {tb : List ExceptionTableEntry} {E : hb_E} {z0 : Heap} {R : Room} {σ0 : Nat → Nat} {N0 : Nat} {o : hb_O} {h' : hb_H} {N' : Nat} {kc ks pc : Nat} {ls st : List hb_V} {N : Nat} {G : hb_G} {F : hb_F} {na : Nat}
theorem aw_F {F2 : hb_F} (e9 : F = F2) (k : hb_W l own cc nL ret nm tb E z0 R σ0 N0 o h' N' kc ks pc ls st (hb_w G F2 na) N) : hb_W l own cc nL ret nm tb E z0 R σ0 N0 o h' N' kc ks pc ls st (hb_w G F na) N := by rw [e9]; exact k
end HBT3
set_option maxRecDepth 20000 in
set_option maxHeartbeats 1000000 in
theorem c_insert {l : Launch} {G : hb_G} {F : hb_F} {na : Nat} {e : Nat} {jx : Int → Nat} {i : Int} (he : e < na) (htm : hb_tm F na (G 25 4) jx) (hn : G 25 4 < 200) (hi : 0 ≤ i ∧ i ≤ G 25 4) (hbf : ∀ k, i ≤ k ∧ k < G 25 4 → hb_cb G (77 + e) (77 + jx k)) (hst : i = 0 ∨ (0 < i ∧ ¬ hb_cb G (77 + e) (77 + jx (i - 1)))) (hG : hb_rg G) : hb_M l yX0_insert cX0_insert 3 none 3 0 0 [hb_r 25, hb_r (77 + e)] (hb_w G F na) (77 + na) (.inl none) (hb_w (hb_u2 G 25 4 (G 25 4 + 1)) (hb_v1 F 27 (hb_is (F 27) (G 25 4) i (some (77 + e)))) na) (77 + na) := by
  refine hb_M_in rfl rfl (by decide) rfl (Nat.le_of_ble_eq_true rfl) ?_
  intro E z0 σ0
  have key : ∀ (n : Nat) (k : Int), i ≤ k → k ≤ G 25 4 → k - i = n → hb_W l RX0 cX0_insert 3 none "insert" [] E z0 (hb_rm 3 0 0) σ0 (77 + na) (.inl none) (hb_w (hb_u2 G 25 4 (G 25 4 + 1)) (hb_v1 F 27 (hb_is (F 27) (G 25 4) i (some (77 + e)))) na) (77 + na) 0 0 5 [hb_r 25, hb_r (77 + e), hb_i k] [] (hb_w G (hb_v1 F 27 (hb_sh (F 27) (G 25 4) (k))) na) (77 + na) := by
    intro n
    induction n with
    | zero =>
      intro k h1 h2 h3
      have e9 : k = i := by omega
      subst e9
      rcases hst with h0 | h0
      · have h0 := h0
        refine aw_ild2 dX0_insert_5 ?_
        refine aw_if_le (tg := 44) dX0_insert_6 (by decide) (by first | exact hG _ _ | assumption | (constructor <;> omega)) (fun c6 => ?_) (fun c6 => absurd c6 (by omega))
        refine aw_ald0 dX0_insert_44 ?_
        refine aw_getf dX0_insert_45 hbf_X0_17 rfl rfl ?_
        refine aw_ild2 dX0_insert_48 ?_
        refine aw_ald1 dX0_insert_49 ?_
        refine aw_eastw dX0_insert_50 (fun _ => rfl) rfl (hb_we he) (by constructor <;> omega) (by decide) ?_
        refine aw_F (F2 := hb_v1 F 27 (hb_is (F 27) (G 25 4) k (some (77 + e)))) (by rw [hb_v2_v1, hb_sh_e]) ?_
        refine aw_ald0 dX0_insert_51 ?_
        refine aw_dup dX0_insert_52 rfl ?_
        refine aw_getf dX0_insert_53 hbf_X0_61 rfl rfl ?_
        refine aw_iconst dX0_insert_56 ?_
        refine aw_iadd dX0_insert_57 ?_
        refine aw_putw dX0_insert_58 hbf_X0_61 hbS_X0 (fun C T n h9 => by cases h9; exact ⟨rfl, by decide +kernel, fun h8 => by cases h8⟩) rfl rfl rfl ?_
        exact aw_vret dX0_insert_61 rfl rfl rfl rfl (by decide) (by decide)
      · have hk1 := htm.2.2 (k - 1) (by omega)
        refine aw_ild2 dX0_insert_5 ?_
        refine aw_if_le (tg := 44) dX0_insert_6 (by decide) (by first | exact hG _ _ | assumption | (constructor <;> omega)) (fun c6 => absurd c6 (by omega)) (fun c6 => ?_)
        refine aw_ald1 dX0_insert_9 ?_
        refine aw_ald0 dX0_insert_10 ?_
        refine aw_getf dX0_insert_11 hbf_X0_17 rfl rfl ?_
        refine aw_ild2 dX0_insert_14 ?_
        refine aw_iconst dX0_insert_15 ?_
        refine aw_isub dX0_insert_16 ?_
        refine aw_eald (r := some (77 + jx (k - 1))) dX0_insert_17 rfl (by constructor <;> omega) (by decide) (by rw [hb_v1_s]; unfold hb_sh; rw [if_neg (by omega)]; exact hk1.1) ?_
        refine aw_V1v dX0_insert_18 (c_comesBefore he hk1.2 hG) (hb_we he) rfl hbY_X1_comesBefore hbm_X0_80 hbi_X1_comesBefore hbe_X1_X1_comesBefore (Nat.le_of_ble_eq_true rfl) ⟨by decide, by decide⟩ (by decide) (by decide) ?_
        refine aw_ifb_eq (tg := 44) dX0_insert_21 (by decide) (fun c21 => ?_) (fun c21 => absurd c21 (by exact fun h8 => h0.2 (by assumption)))
        refine aw_ald0 dX0_insert_44 ?_
        refine aw_getf dX0_insert_45 hbf_X0_17 rfl rfl ?_
        refine aw_ild2 dX0_insert_48 ?_
        refine aw_ald1 dX0_insert_49 ?_
        refine aw_eastw dX0_insert_50 (fun _ => rfl) rfl (hb_we he) (by constructor <;> omega) (by decide) ?_
        refine aw_F (F2 := hb_v1 F 27 (hb_is (F 27) (G 25 4) k (some (77 + e)))) (by rw [hb_v2_v1, hb_sh_e]) ?_
        refine aw_ald0 dX0_insert_51 ?_
        refine aw_dup dX0_insert_52 rfl ?_
        refine aw_getf dX0_insert_53 hbf_X0_61 rfl rfl ?_
        refine aw_iconst dX0_insert_56 ?_
        refine aw_iadd dX0_insert_57 ?_
        refine aw_putw dX0_insert_58 hbf_X0_61 hbS_X0 (fun C T n h9 => by cases h9; exact ⟨rfl, by decide +kernel, fun h8 => by cases h8⟩) rfl rfl rfl ?_
        exact aw_vret dX0_insert_61 rfl rfl rfl rfl (by decide) (by decide)
    | succ n ih =>
      intro k h1 h2 h3
      have hk1 := htm.2.2 (k - 1) (by omega)
      refine aw_ild2 dX0_insert_5 ?_
      refine aw_if_le (tg := 44) dX0_insert_6 (by decide) (by first | exact hG _ _ | assumption | (constructor <;> omega)) (fun c6 => absurd c6 (by omega)) (fun c6 => ?_)
      refine aw_ald1 dX0_insert_9 ?_
      refine aw_ald0 dX0_insert_10 ?_
      refine aw_getf dX0_insert_11 hbf_X0_17 rfl rfl ?_
      refine aw_ild2 dX0_insert_14 ?_
      refine aw_iconst dX0_insert_15 ?_
      refine aw_isub dX0_insert_16 ?_
      refine aw_eald (r := some (77 + jx (k - 1))) dX0_insert_17 rfl (by constructor <;> omega) (by decide) (by rw [hb_v1_s]; unfold hb_sh; rw [if_neg (by omega)]; exact hk1.1) ?_
      refine aw_V1v dX0_insert_18 (c_comesBefore he hk1.2 hG) (hb_we he) rfl hbY_X1_comesBefore hbm_X0_80 hbi_X1_comesBefore hbe_X1_X1_comesBefore (Nat.le_of_ble_eq_true rfl) ⟨by decide, by decide⟩ (by decide) (by decide) ?_
      refine aw_ifb_eq (tg := 44) dX0_insert_21 (by decide) (fun c21 => absurd c21 (by exact fun h8 => h8 (hbf (k - 1) (by omega)))) (fun c21 => ?_)
      refine aw_ald0 dX0_insert_24 ?_
      refine aw_getf dX0_insert_25 hbf_X0_17 rfl rfl ?_
      refine aw_ild2 dX0_insert_28 ?_
      refine aw_ald0 dX0_insert_29 ?_
      refine aw_getf dX0_insert_30 hbf_X0_17 rfl rfl ?_
      refine aw_ild2 dX0_insert_33 ?_
      refine aw_iconst dX0_insert_34 ?_
      refine aw_isub dX0_insert_35 ?_
      refine aw_eald (r := some (77 + jx (k - 1))) dX0_insert_36 rfl (by constructor <;> omega) (by decide) (by rw [hb_v1_s]; unfold hb_sh; rw [if_neg (by omega)]; exact hk1.1) ?_
      refine aw_eastw dX0_insert_37 (fun _ => rfl) rfl (hb_we hk1.2) (by constructor <;> omega) (by decide) ?_
      refine aw_F (F2 := hb_v1 F 27 (hb_sh (F 27) (G 25 4) (k - 1))) (by rw [hb_v2_v1, ← hk1.1, hb_sh_s _ _ _ (by omega)]) ?_
      refine aw_iinc2 dX0_insert_38 (by decide) ?_
      refine aw_goto (tg := 5) dX0_insert_41 (by decide) ?_
      exact ih (k + -1) (by omega) (by omega) (by omega)
  refine aw_F (F2 := hb_v1 F 27 (hb_sh (F 27) (G 25 4) (G 25 4))) (by rw [hb_sh_n, hb_v1_id]) ?_
  refine aw_ald0 dX0_insert_0 ?_
  refine aw_getf dX0_insert_1 hbf_X0_61 rfl rfl ?_
  refine aw_ipu2 dX0_insert_4 (by decide) ?_
  exact key (G 25 4 - i).toNat (G 25 4) (by omega) (by omega) (by omega)
set_option maxRecDepth 20000 in
set_option maxHeartbeats 1000000 in
theorem c_remove {l : Launch} {G : hb_G} {F : hb_F} {na : Nat} {e : Nat} {jx : Int → Nat} {i : Int} (he : e < na) (htm : hb_tm F na (G 25 4) jx) (hi : 0 ≤ i ∧ i < G 25 4) (hei : jx i = e) (hne : ∀ k, 0 ≤ k ∧ k < G 25 4 → k ≠ i → jx k ≠ e) (hG : hb_rg G) : hb_M l yX0_remove cX0_remove 4 none 0 0 0 [hb_r 25, hb_r (77 + e)] (hb_w G F na) (77 + na) (.inl none) (hb_w (hb_u2 G 25 4 (G 25 4 - 1)) (hb_v1 F 27 (hb_rv (F 27) i (G 25 4 - 1))) na) (77 + na) := by
  refine hb_M_in rfl rfl (by decide) rfl (Nat.le_of_ble_eq_true rfl) ?_
  intro E z0 σ0
  have hF0 : hb_rv (F 27) i (0 - 1) = F 27 := hb_rv_0 _ _ _ (by omega)
  have key2 : ∀ (n : Nat) (k : Int), i < k → k ≤ G 25 4 → G 25 4 - k < n → hb_W l RX0 cX0_remove 4 none "remove" [] E z0 (hb_rm 0 0 0) σ0 (77 + na) (.inl none) (hb_w (hb_u2 G 25 4 (G 25 4 - 1)) (hb_v1 F 27 (hb_rv (F 27) i (G 25 4 - 1))) na) (77 + na) 0 0 4 [hb_r 25, hb_r (77 + e), hb_i (k - 1), hb_i k] [] (hb_w G (hb_v1 F 27 (hb_rv (F 27) i (k - 1))) na) (77 + na) := by
    intro n
    induction n with
    | zero => intro k h1 h2 h3; omega
    | succ n ih =>
      intro k h1 h2 h3
      have htm2 := htm.2.1
      refine aw_ild3 dX0_remove_4 ?_
      refine aw_ald0 dX0_remove_5 ?_
      refine aw_getf dX0_remove_6 hbf_X0_61 rfl rfl ?_
      refine aw_icmp_ge (tg := 43) dX0_remove_9 (by decide) (by first | exact hG _ _ | assumption | (constructor <;> omega)) (by first | exact hG _ _ | assumption | (constructor <;> omega)) (fun c9 => ?_) (fun c9 => ?_)
      · skip
        have e9 : k = G 25 4 := by omega
        subst e9
        refine aw_ald0 dX0_remove_43 ?_
        refine aw_ild2 dX0_remove_44 ?_
        refine aw_putw dX0_remove_45 hbf_X0_61 hbS_X0 (fun C T n h9 => by cases h9; exact ⟨rfl, by decide +kernel, fun h8 => by cases h8⟩) rfl rfl rfl ?_
        exact aw_vret dX0_remove_48 rfl rfl rfl rfl (by decide) (by decide)
      · skip
        have hk1 := htm.2.2 k (by omega)
        refine aw_ald0 dX0_remove_12 ?_
        refine aw_getf dX0_remove_13 hbf_X0_17 rfl rfl ?_
        refine aw_ild3 dX0_remove_16 ?_
        refine aw_eald (r := some (77 + jx k)) dX0_remove_17 rfl (by constructor <;> omega) (by decide) (by rw [hb_v1_s]; unfold hb_rv; rw [if_neg (by omega)]; exact hk1.1) ?_
        refine aw_ald1 dX0_remove_18 ?_
        refine aw_acmp_eq (tg := 37) dX0_remove_19 (by decide) (by omega) (by omega) (fun c19 => absurd c19 (by exact fun h8 => hne k (by omega) (by omega) (by omega))) (fun c19 => ?_)
        refine aw_ald0 dX0_remove_22 ?_
        refine aw_getf dX0_remove_23 hbf_X0_17 rfl rfl ?_
        refine aw_ild2 dX0_remove_26 ?_
        refine aw_ald0 dX0_remove_27 ?_
        refine aw_getf dX0_remove_28 hbf_X0_17 rfl rfl ?_
        refine aw_ild3 dX0_remove_31 ?_
        refine aw_eald (r := some (77 + jx k)) dX0_remove_32 rfl (by constructor <;> omega) (by decide) (by rw [hb_v1_s]; unfold hb_rv; rw [if_neg (by omega)]; exact hk1.1) ?_
        refine aw_eastw dX0_remove_33 (fun _ => rfl) rfl (hb_we hk1.2) (by constructor <;> omega) (by decide) ?_
        refine aw_F (F2 := hb_v1 F 27 (hb_rv (F 27) i (k - 1 + 1))) (by rw [hb_v2_v1, ← hk1.1, ← hb_rv_s _ _ _ (by omega), show k - 1 + 1 = k by omega]) ?_
        refine aw_iinc2 dX0_remove_34 (by decide) ?_
        refine aw_iinc3 dX0_remove_37 (by decide) ?_
        refine aw_goto (tg := 4) dX0_remove_40 (by decide) ?_
        have h8 := ih (k + 1) (by omega) (by omega) (by omega)
        rw [show k + 1 - 1 = k - 1 + 1 by omega] at h8
        exact h8
  have key : ∀ (n : Nat) (k : Int), 0 ≤ k → k ≤ i → i - k < n → hb_W l RX0 cX0_remove 4 none "remove" [] E z0 (hb_rm 0 0 0) σ0 (77 + na) (.inl none) (hb_w (hb_u2 G 25 4 (G 25 4 - 1)) (hb_v1 F 27 (hb_rv (F 27) i (G 25 4 - 1))) na) (77 + na) 0 0 4 [hb_r 25, hb_r (77 + e), hb_i k, hb_i k] [] (hb_w G F na) (77 + na) := by
    intro n
    induction n with
    | zero => intro k h1 h2 h3; omega
    | succ n ih =>
      intro k h1 h2 h3
      have htm2 := htm.2.1
      have hk1 := htm.2.2 k (by omega)
      refine aw_ild3 dX0_remove_4 ?_
      refine aw_ald0 dX0_remove_5 ?_
      refine aw_getf dX0_remove_6 hbf_X0_61 rfl rfl ?_
      refine aw_icmp_ge (tg := 43) dX0_remove_9 (by decide) (by first | exact hG _ _ | assumption | (constructor <;> omega)) (by first | exact hG _ _ | assumption | (constructor <;> omega)) (fun c9 => absurd c9 (by omega)) (fun c9 => ?_)
      refine aw_ald0 dX0_remove_12 ?_
      refine aw_getf dX0_remove_13 hbf_X0_17 rfl rfl ?_
      refine aw_ild3 dX0_remove_16 ?_
      refine aw_eald (r := some (77 + jx k)) dX0_remove_17 rfl (by constructor <;> omega) (by decide) hk1.1 ?_
      refine aw_ald1 dX0_remove_18 ?_
      refine aw_acmp_eq (tg := 37) dX0_remove_19 (by decide) (by omega) (by omega) (fun c19 => ?_) (fun c19 => ?_)
      · skip
        have e9 : k = i := by rcases (show k = i ∨ k ≠ i by omega) with h8 | h8; exact h8; exact absurd (by omega) (hne k (by omega) h8)
        subst e9
        refine aw_iinc3 dX0_remove_37 (by decide) ?_
        refine aw_goto (tg := 4) dX0_remove_40 (by decide) ?_
        first | exact ih (k + 1) (by omega) (by omega) (by omega) | (have h8 := key2 ((G 25 4 - (k + 1)).toNat + 1) (k + 1) (by omega) (by omega) (by omega); rw [show hb_rv (F 27) k (k + 1 - 1) = F 27 from hb_rv_0 _ _ _ (by omega), hb_v1_id, show k + 1 - 1 = k by omega] at h8; exact h8)
      · skip
        have e9 : k ≠ i := fun h8 => by subst h8; omega
        refine aw_ald0 dX0_remove_22 ?_
        refine aw_getf dX0_remove_23 hbf_X0_17 rfl rfl ?_
        refine aw_ild2 dX0_remove_26 ?_
        refine aw_ald0 dX0_remove_27 ?_
        refine aw_getf dX0_remove_28 hbf_X0_17 rfl rfl ?_
        refine aw_ild3 dX0_remove_31 ?_
        refine aw_eald (r := some (77 + jx k)) dX0_remove_32 rfl (by constructor <;> omega) (by decide) hk1.1 ?_
        refine aw_eastw dX0_remove_33 (fun _ => rfl) rfl (hb_we hk1.2) (by constructor <;> omega) (by decide) ?_
        refine aw_F (F2 := F) (by rw [← hk1.1]; unfold hb_v2; rw [hb_uf_id, hb_v1_id]) ?_
        refine aw_iinc2 dX0_remove_34 (by decide) ?_
        refine aw_iinc3 dX0_remove_37 (by decide) ?_
        refine aw_goto (tg := 4) dX0_remove_40 (by decide) ?_
        first | exact ih (k + 1) (by omega) (by omega) (by omega) | (have h8 := key2 ((G 25 4 - (k + 1)).toNat + 1) (k + 1) (by omega) (by omega) (by omega); rw [show hb_rv (F 27) k (k + 1 - 1) = F 27 from hb_rv_0 _ _ _ (by omega), hb_v1_id, show k + 1 - 1 = k by omega] at h8; exact h8)
  refine aw_iconst dX0_remove_0 ?_
  refine aw_ipu2 dX0_remove_1 (by decide) ?_
  refine aw_iconst dX0_remove_2 ?_
  refine aw_ipu3 dX0_remove_3 (by decide) ?_
  exact key (i.toNat + 1) 0 (by omega) (by omega) (by omega)

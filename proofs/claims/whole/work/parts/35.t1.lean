set_option maxRecDepth 20000 in
set_option maxHeartbeats 1000000 in
theorem c_refuseY {l : Launch} {G : hb_G} {F : hb_F} {na : Nat}  : hb_M l yX8_refuseUnless cX8_refuseUnless 1 none 0 0 0 [hb_i 1] (hb_w G F na) (77 + na) (.inl none) (hb_w G F na) (77 + na) := by
  refine hb_M_in rfl rfl (by decide) rfl (Nat.le_of_ble_eq_true rfl) ?_
  intro E z0 σ0
  refine aw_ild0 dX8_refuseUnless_0 ?_
  refine aw_if_ne (tg := 14) dX8_refuseUnless_1 (by decide) (by decide) (fun c1 => ?_) (fun c1 => absurd c1 (by decide))
  exact aw_vret dX8_refuseUnless_14 rfl rfl rfl rfl (by decide) (by decide)
set_option maxRecDepth 20000 in
set_option maxHeartbeats 1000000 in
theorem c_refuseN {l : Launch} {G : hb_G} {F : hb_F} {na : Nat} (hl : l.stackTraces = false) : hb_M l yX8_refuseUnless cX8_refuseUnless 1 none 6 1 6 [hb_i 0] (hb_w G F na) (77 + na) (.inr "java/lang/IllegalArgumentException") (hb_w G F na) (77 + na) := by
  refine hb_M_in rfl rfl (by decide) rfl (Nat.le_of_ble_eq_true rfl) ?_
  intro E z0 σ0
  refine aw_ild0 dX8_refuseUnless_0 ?_
  refine aw_if_ne (tg := 14) dX8_refuseUnless_1 (by decide) (by decide) (fun c1 => absurd c1 (by decide)) (fun c1 => ?_)
  exact aw_throw hl hbT_A (fun U h9 => h9.2.2.2.1) (fun U h9 => h9.2.2.1) dX8_refuseUnless_4 dX8_refuseUnless_7 dX8_refuseUnless_8 dX8_refuseUnless_10 dX8_refuseUnless_13 rfl rfl rfl rfl (by decide) (by decide) (by decide) (by decide)
def hb_er (s t p o pl m c d : Int) : Int → Int := fun i => if i = 0 then s else if i = 1 then t else if i = 2 then p else if i = 3 then 0 else if i = 4 then o else if i = 5 then pl else if i = 6 then m else if i = 7 then c else if i = 8 then d else 0
theorem hb_er0 {s t p : Int} : hb_uf (hb_uf (hb_uf (fun _ => 0) 0 s) 1 t) 2 p = hb_er s t p 0 0 0 0 0 := by
  funext i
  unfold hb_uf hb_er
  repeat' split
  all_goals first | rfl | omega
theorem hb_er4 {s t p o pl m c d x : Int} : hb_uf (hb_er s t p o pl m c d) 4 x = hb_er s t p x pl m c d := by
  funext i
  unfold hb_uf hb_er
  repeat' split
  all_goals first | rfl | omega
theorem hb_er5 {s t p o pl m c d x : Int} : hb_uf (hb_er s t p o pl m c d) 5 x = hb_er s t p o x m c d := by
  funext i
  unfold hb_uf hb_er
  repeat' split
  all_goals first | rfl | omega
theorem hb_er6 {s t p o pl m c d x : Int} : hb_uf (hb_er s t p o pl m c d) 6 x = hb_er s t p o pl x c d := by
  funext i
  unfold hb_uf hb_er
  repeat' split
  all_goals first | rfl | omega
theorem hb_er7 {s t p o pl m c d x : Int} : hb_uf (hb_er s t p o pl m c d) 7 x = hb_er s t p o pl m x d := by
  funext i
  unfold hb_uf hb_er
  repeat' split
  all_goals first | rfl | omega
theorem hb_er8 {s t p o pl m c d x : Int} : hb_uf (hb_er s t p o pl m c d) 8 x = hb_er s t p o pl m c x := by
  funext i
  unfold hb_uf hb_er
  repeat' split
  all_goals first | rfl | omega
set_option maxRecDepth 20000 in
set_option maxHeartbeats 1000000 in
theorem c_entryInit {l : Launch} {G : hb_G} {F : hb_F} {na : Nat} {e : Nat} {s t p : Int} (he : e < na) : hb_M l yX1_init cX1_init 4 none 1 0 0 [hb_r (77 + e), hb_i s, hb_i t, hb_i p] (hb_w G F na) (77 + na) (.inl none) (hb_w (hb_u2 (hb_u2 (hb_u2 G (77 + e) 0 s) (77 + e) 1 t) (77 + e) 2 p) F na) (77 + na) := by
  refine hb_M_in rfl rfl (by decide) rfl (Nat.le_of_ble_eq_true rfl) ?_
  intro E z0 σ0
  refine aw_ald0 dX1_init_0 ?_
  refine aw_obj dX1_init_1 hbm_X1_3 hbi_objectInit hbo_code (by decide) (by decide) ?_
  refine aw_ald0 dX1_init_4 ?_
  refine aw_ild1 dX1_init_5 ?_
  refine aw_putFw dX1_init_6 hbf_X1_9 hbS_X1 (fun C T n h9 => by cases h9; exact ⟨rfl, by decide +kernel, fun _ => rfl⟩) rfl (hb_pe he) (hb_ce _ _ _) (by rw [hb_ce]; rfl) ?_
  refine aw_ald0 dX1_init_9 ?_
  refine aw_ild2 dX1_init_10 ?_
  refine aw_putFw dX1_init_11 hbf_X1_15 hbS_X1 (fun C T n h9 => by cases h9; exact ⟨rfl, by decide +kernel, fun _ => rfl⟩) rfl (hb_pe he) (hb_ce _ _ _) (by rw [hb_ce]; rfl) ?_
  refine aw_ald0 dX1_init_14 ?_
  refine aw_ild3 dX1_init_15 ?_
  refine aw_putFw dX1_init_16 hbf_X1_18 hbS_X1 (fun C T n h9 => by cases h9; exact ⟨rfl, by decide +kernel, fun _ => rfl⟩) rfl (hb_pe he) (hb_ce _ _ _) (by rw [hb_ce]; rfl) ?_
  exact aw_vret dX1_init_19 rfl rfl rfl rfl (by decide) (by decide)
set_option maxRecDepth 20000 in
set_option maxHeartbeats 1000000 in
theorem c_enterY {l : Launch} {G : hb_G} {F : hb_F} {na : Nat} {e : Nat} (he : e < na) {G1 : hb_G} {F1 : hb_F} {v : Int} (hv : hb_in v) (hv2 : v ≠ -1) (hA : hb_M l yX0_add cX0_add 2 (some .int) 4 0 0 [hb_r 25, hb_r (77 + e)] (hb_w G F na) (77 + na) (.inl (some (hb_i (v)))) (hb_w G1 F1 na) (77 + na)) : hb_M l yX8_enter cX8_enter 3 (some .int) 5 0 0 [hb_r 0, hb_r (77 + e)] (hb_w G F na) (77 + na) (.inl (some (hb_i (v)))) (hb_w (hb_u2 G1 32 9 (-1)) F1 na) (77 + na) := by
  refine hb_M_in rfl rfl (by decide) rfl (Nat.le_of_ble_eq_true rfl) ?_
  intro E z0 σ0
  refine aw_ald0 dX8_enter_0 ?_
  refine aw_getf dX8_enter_1 hbf_X8_44 rfl rfl ?_
  refine aw_ald1 dX8_enter_4 ?_
  refine aw_V1v dX8_enter_5 hA rfl rfl hbY_X0_add hbm_X8_244 hbi_X0_add hbe_X0_X0_add (Nat.le_of_ble_eq_true rfl) ⟨by decide, by decide⟩ (by decide) (by decide) ?_
  refine aw_ipu2 dX8_enter_8 (by decide) ?_
  refine aw_ild2 dX8_enter_9 ?_
  refine aw_iconst dX8_enter_10 ?_
  refine aw_icmp_ne (tg := 24) dX8_enter_11 (by decide) hv (by decide) (fun c11 => ?_) (fun c11 => absurd c11 (by omega))
  refine aw_ald0 dX8_enter_24 ?_
  refine aw_getf dX8_enter_25 hbf_X8_56 rfl rfl ?_
  refine aw_V0n dX8_enter_28 (c_forget ) rfl rfl hbY_X4_forget hbm_X8_90 hbi_X4_forget hbe_X4_X4_forget (Nat.le_of_ble_eq_true rfl) ⟨by decide, by decide⟩ (by decide) (by decide) ?_
  refine aw_ild2 dX8_enter_31 ?_
  exact aw_iret dX8_enter_32 rfl (by rfl) rfl rfl (by decide) (by decide)
set_option maxRecDepth 20000 in
set_option maxHeartbeats 1000000 in
theorem c_enterN {l : Launch} {G : hb_G} {F : hb_F} {na : Nat} (hl : l.stackTraces = false) {e : Nat} (he : e < na) {G1 : hb_G} {F1 : hb_F} (hA : hb_M l yX0_add cX0_add 2 (some .int) 4 0 0 [hb_r 25, hb_r (77 + e)] (hb_w G F na) (77 + na) (.inl (some (hb_i ((-1))))) (hb_w G1 F1 na) (77 + na)) : hb_M l yX8_enter cX8_enter 3 (some .int) 6 1 6 [hb_r 0, hb_r (77 + e)] (hb_w G F na) (77 + na) (.inr "java/lang/IllegalStateException") (hb_w G1 F1 na) (77 + na) := by
  refine hb_M_in rfl rfl (by decide) rfl (Nat.le_of_ble_eq_true rfl) ?_
  intro E z0 σ0
  refine aw_ald0 dX8_enter_0 ?_
  refine aw_getf dX8_enter_1 hbf_X8_44 rfl rfl ?_
  refine aw_ald1 dX8_enter_4 ?_
  refine aw_V1v dX8_enter_5 hA rfl rfl hbY_X0_add hbm_X8_244 hbi_X0_add hbe_X0_X0_add (Nat.le_of_ble_eq_true rfl) ⟨by decide, by decide⟩ (by decide) (by decide) ?_
  refine aw_ipu2 dX8_enter_8 (by decide) ?_
  refine aw_ild2 dX8_enter_9 ?_
  refine aw_iconst dX8_enter_10 ?_
  refine aw_icmp_ne (tg := 24) dX8_enter_11 (by decide) (by decide) (by decide) (fun c11 => absurd c11 (by exact fun h8 => h8 rfl)) (fun c11 => ?_)
  exact aw_throw hl hbT_S (fun U h9 => h9.2.2.2.2.1) (fun U h9 => h9.2.2.2.1) dX8_enter_14 dX8_enter_17 dX8_enter_18 dX8_enter_20 dX8_enter_23 rfl rfl rfl rfl (by decide) (by decide) (by decide) (by decide)
set_option maxRecDepth 20000 in
set_option maxHeartbeats 1000000 in
theorem c_takeR {l : Launch} {G : hb_G} {F : hb_F} {na : Nat} (hl : l.stackTraces = false) {t p : Int} (it : hb_in t) (ip : hb_in p) (hP : ¬ ((0 ≤ t ∧ t < 40 ∧ G 7 t ≠ -1) ∧ (0 ≤ p ∧ p ≤ 3000099))) (hG : hb_rg G) : hb_M l yX8_take cX8_take 3 (some .int) 7 1 6 [hb_r 0, hb_i t, hb_i p] (hb_w G F na) (77 + na) (.inr "java/lang/IllegalArgumentException") (hb_w G F na) (77 + na) := by
  refine hb_M_in rfl rfl (by decide) rfl (Nat.le_of_ble_eq_true rfl) ?_
  intro E z0 σ0
  refine aw_ald0 dX8_take_0 ?_
  refine aw_getf dX8_take_1 hbf_X8_21 rfl rfl ?_
  refine aw_ild1 dX8_take_4 ?_
  refine aw_V1v dX8_take_5 (c_thingsHas (by first | assumption | omega | (constructor <;> omega) | exact hG _ _) hG) rfl rfl hbY_X6_has hbm_X8_75 hbi_X6_has hbe_X6_X6_has (Nat.le_of_ble_eq_true rfl) ⟨by decide, by decide⟩ (by decide) (by decide) ?_
  refine aw_ifb_eq (tg := 22) dX8_take_8 (by decide) (fun c8 => ?_) (fun c8 => ?_)
  · skip
    refine aw_iconst dX8_take_22 ?_
    exact aw_S1x dX8_take_23 (c_refuseN hl) hbY_X8_refuseUnless hbm_X8_116 hbs_X8_refuseUnless (Nat.le_of_ble_eq_true rfl) ⟨by decide, by decide⟩ (by decide) (by decide) rfl rfl rfl rfl
  · skip
    refine aw_ild2 dX8_take_11 ?_
    refine aw_S1v dX8_take_12 (c_isPoint (by first | assumption | omega | (constructor <;> omega) | exact hG _ _)) hbY_X8_isPoint hbm_X8_112 hbs_X8_isPoint (Nat.le_of_ble_eq_true rfl) ⟨by decide, by decide⟩ (by decide) (by decide) ?_
    refine aw_ifb_eq (tg := 22) dX8_take_15 (by decide) (fun c15 => ?_) (fun c15 => ?_)
    · skip
      refine aw_iconst dX8_take_22 ?_
      exact aw_S1x dX8_take_23 (c_refuseN hl) hbY_X8_refuseUnless hbm_X8_116 hbs_X8_refuseUnless (Nat.le_of_ble_eq_true rfl) ⟨by decide, by decide⟩ (by decide) (by decide) rfl rfl rfl rfl
    · skip
      exact absurd ⟨by assumption, by assumption⟩ hP
set_option maxRecDepth 20000 in
set_option maxHeartbeats 1000000 in
theorem c_takeY {l : Launch} {G : hb_G} {F : hb_F} {na : Nat} {t p : Int} (it : hb_in t) (ip : hb_in p) (hP : (0 ≤ t ∧ t < 40 ∧ G 7 t ≠ -1) ∧ (0 ≤ p ∧ p ≤ 3000099)) {G1 : hb_G} {F1 : hb_F} {v : Int} (hE : hb_M l yX8_enter cX8_enter 3 (some .int) 5 0 0 [hb_r 0, hb_r (77 + na)] (hb_w (hb_u1 G (77 + na) (hb_er 1 t p 0 0 0 0 0)) F (na + 1)) (77 + (na + 1)) (.inl (some (hb_i (v)))) (hb_w G1 F1 (na + 1)) (77 + (na + 1))) (hG : hb_rg G) : hb_M l yX8_take cX8_take 3 (some .int) 7 1 9 [hb_r 0, hb_i t, hb_i p] (hb_w G F na) (77 + na) (.inl (some (hb_i (v)))) (hb_w G1 F1 (na + 1)) (77 + (na + 1)) := by
  refine hb_M_in rfl rfl (by decide) rfl (Nat.le_of_ble_eq_true rfl) ?_
  intro E z0 σ0
  refine aw_ald0 dX8_take_0 ?_
  refine aw_getf dX8_take_1 hbf_X8_21 rfl rfl ?_
  refine aw_ild1 dX8_take_4 ?_
  refine aw_V1v dX8_take_5 (c_thingsHas (by first | assumption | omega | (constructor <;> omega) | exact hG _ _) hG) rfl rfl hbY_X6_has hbm_X8_75 hbi_X6_has hbe_X6_X6_has (Nat.le_of_ble_eq_true rfl) ⟨by decide, by decide⟩ (by decide) (by decide) ?_
  refine aw_ifb_eq (tg := 22) dX8_take_8 (by decide) (fun c8 => absurd c8 (by exact fun h8 => h8 hP.1)) (fun c8 => ?_)
  refine aw_ild2 dX8_take_11 ?_
  refine aw_S1v dX8_take_12 (c_isPoint (by first | assumption | omega | (constructor <;> omega) | exact hG _ _)) hbY_X8_isPoint hbm_X8_112 hbs_X8_isPoint (Nat.le_of_ble_eq_true rfl) ⟨by decide, by decide⟩ (by decide) (by decide) ?_
  refine aw_ifb_eq (tg := 22) dX8_take_15 (by decide) (fun c15 => absurd c15 (by exact fun h8 => h8 hP.2)) (fun c15 => ?_)
  refine aw_iconst dX8_take_18 ?_
  refine aw_goto (tg := 23) dX8_take_19 (by decide) ?_
  refine aw_S1n dX8_take_23 c_refuseY hbY_X8_refuseUnless hbm_X8_116 hbs_X8_refuseUnless (Nat.le_of_ble_eq_true rfl) ⟨by decide, by decide⟩ (by decide) (by decide) ?_
  refine aw_ald0 dX8_take_26 ?_
  refine aw_newE dX8_take_27 hbc_X8_120 (by decide) (by decide) (hb_nwi (by intro p hp; simp at hp <;> omega)) (hb_nwi (by intro p hp; simp at hp <;> omega)) ?_
  refine aw_dup dX8_take_30 rfl ?_
  refine aw_iconst dX8_take_31 ?_
  refine aw_ild1 dX8_take_32 ?_
  refine aw_ild2 dX8_take_33 ?_
  refine aw_I3n dX8_take_34 (c_entryInit (Nat.lt_succ_self na)) hbY_X1_init hbm_X8_122 hbi_X1_init rfl (Nat.le_of_ble_eq_true rfl) ⟨by decide, by decide⟩ (by decide) (by decide) hb_nw.rf hb_nw.rf ?_
  refine aw_G (G2 := hb_u1 G (77 + na) (hb_er 1 t p 0 0 0 0 0)) (by rw [hb_u2_u1, hb_u2_u1, hb_u2_u1, hb_er0]) ?_
  refine aw_V1v dX8_take_37 hE rfl rfl hbY_X8_enter hbm_X8_131 hbi_X8_enter hbe_X8_X8_enter (Nat.le_of_ble_eq_true rfl) ⟨by decide, by decide⟩ (by decide) (by decide) ?_
  exact aw_iret dX8_take_40 rfl (by rfl) rfl rfl (by decide) (by decide)
set_option maxRecDepth 20000 in
set_option maxHeartbeats 1000000 in
theorem c_takeX {l : Launch} {G : hb_G} {F : hb_F} {na : Nat} {t p : Int} (it : hb_in t) (ip : hb_in p) (hP : (0 ≤ t ∧ t < 40 ∧ G 7 t ≠ -1) ∧ (0 ≤ p ∧ p ≤ 3000099)) {G1 : hb_G} {F1 : hb_F} (hE : hb_M l yX8_enter cX8_enter 3 (some .int) 6 1 6 [hb_r 0, hb_r (77 + na)] (hb_w (hb_u1 G (77 + na) (hb_er 1 t p 0 0 0 0 0)) F (na + 1)) (77 + (na + 1)) (.inr "java/lang/IllegalStateException") (hb_w G1 F1 (na + 1)) (77 + (na + 1))) (hG : hb_rg G) : hb_M l yX8_take cX8_take 3 (some .int) 7 2 15 [hb_r 0, hb_i t, hb_i p] (hb_w G F na) (77 + na) (.inr "java/lang/IllegalStateException") (hb_w G1 F1 (na + 1)) (77 + (na + 1)) := by
  refine hb_M_in rfl rfl (by decide) rfl (Nat.le_of_ble_eq_true rfl) ?_
  intro E z0 σ0
  refine aw_ald0 dX8_take_0 ?_
  refine aw_getf dX8_take_1 hbf_X8_21 rfl rfl ?_
  refine aw_ild1 dX8_take_4 ?_
  refine aw_V1v dX8_take_5 (c_thingsHas (by first | assumption | omega | (constructor <;> omega) | exact hG _ _) hG) rfl rfl hbY_X6_has hbm_X8_75 hbi_X6_has hbe_X6_X6_has (Nat.le_of_ble_eq_true rfl) ⟨by decide, by decide⟩ (by decide) (by decide) ?_
  refine aw_ifb_eq (tg := 22) dX8_take_8 (by decide) (fun c8 => absurd c8 (by exact fun h8 => h8 hP.1)) (fun c8 => ?_)
  refine aw_ild2 dX8_take_11 ?_
  refine aw_S1v dX8_take_12 (c_isPoint (by first | assumption | omega | (constructor <;> omega) | exact hG _ _)) hbY_X8_isPoint hbm_X8_112 hbs_X8_isPoint (Nat.le_of_ble_eq_true rfl) ⟨by decide, by decide⟩ (by decide) (by decide) ?_
  refine aw_ifb_eq (tg := 22) dX8_take_15 (by decide) (fun c15 => absurd c15 (by exact fun h8 => h8 hP.2)) (fun c15 => ?_)
  refine aw_iconst dX8_take_18 ?_
  refine aw_goto (tg := 23) dX8_take_19 (by decide) ?_
  refine aw_S1n dX8_take_23 c_refuseY hbY_X8_refuseUnless hbm_X8_116 hbs_X8_refuseUnless (Nat.le_of_ble_eq_true rfl) ⟨by decide, by decide⟩ (by decide) (by decide) ?_
  refine aw_ald0 dX8_take_26 ?_
  refine aw_newE dX8_take_27 hbc_X8_120 (by decide) (by decide) (hb_nwi (by intro p hp; simp at hp <;> omega)) (hb_nwi (by intro p hp; simp at hp <;> omega)) ?_
  refine aw_dup dX8_take_30 rfl ?_
  refine aw_iconst dX8_take_31 ?_
  refine aw_ild1 dX8_take_32 ?_
  refine aw_ild2 dX8_take_33 ?_
  refine aw_I3n dX8_take_34 (c_entryInit (Nat.lt_succ_self na)) hbY_X1_init hbm_X8_122 hbi_X1_init rfl (Nat.le_of_ble_eq_true rfl) ⟨by decide, by decide⟩ (by decide) (by decide) hb_nw.rf hb_nw.rf ?_
  refine aw_G (G2 := hb_u1 G (77 + na) (hb_er 1 t p 0 0 0 0 0)) (by rw [hb_u2_u1, hb_u2_u1, hb_u2_u1, hb_er0]) ?_
  exact aw_V1x dX8_take_37 hE rfl rfl hbY_X8_enter hbm_X8_131 hbi_X8_enter hbe_X8_X8_enter (Nat.le_of_ble_eq_true rfl) ⟨by decide, by decide⟩ (by decide) (by decide) rfl rfl rfl rfl
set_option maxRecDepth 20000 in
set_option maxHeartbeats 1000000 in
theorem c_flightR {l : Launch} {G : hb_G} {F : hb_F} {na : Nat} (hl : l.stackTraces = false) {m p a b : Int} (im : hb_in m) (ip : hb_in p) (ia : hb_in a) (ib : hb_in b) (hP : ¬ (((0 ≤ m ∧ m < 40 ∧ G 7 m ≠ -1) ∧ ¬ ∃ i, 0 ≤ i ∧ i < 48 ∧ G 2 i = G 7 m) ∧ (0 ≤ p ∧ p ≤ 3000099) ∧ (0 ≤ a ∧ a ≤ 100000) ∧ (0 ≤ b ∧ b ≤ 100000))) (hG : hb_rg G) : hb_M l yX8_flight cX8_flight 6 (some .int) 7 1 6 [hb_r 0, hb_i m, hb_i p, hb_i a, hb_i b] (hb_w G F na) (77 + na) (.inr "java/lang/IllegalArgumentException") (hb_w G F na) (77 + na) := by
  refine hb_M_in rfl rfl (by decide) rfl (Nat.le_of_ble_eq_true rfl) ?_
  intro E z0 σ0
  refine aw_ald0 dX8_flight_0 ?_
  refine aw_getf dX8_flight_1 hbf_X8_21 rfl rfl ?_
  refine aw_ild1 dX8_flight_4 ?_
  refine aw_V1v dX8_flight_5 (c_isMachine (by first | assumption | omega | (constructor <;> omega) | exact hG _ _) hG) rfl rfl hbY_X6_isMachine hbm_X8_109 hbi_X6_isMachine hbe_X6_X6_isMachine (Nat.le_of_ble_eq_true rfl) ⟨by decide, by decide⟩ (by decide) (by decide) ?_
  refine aw_ifb_eq (tg := 41) dX8_flight_8 (by decide) (fun c8 => ?_) (fun c8 => ?_)
  · skip
    refine aw_iconst dX8_flight_41 ?_
    exact aw_S1x dX8_flight_42 (c_refuseN hl) hbY_X8_refuseUnless hbm_X8_116 hbs_X8_refuseUnless (Nat.le_of_ble_eq_true rfl) ⟨by decide, by decide⟩ (by decide) (by decide) rfl rfl rfl rfl
  · skip
    refine aw_ild2 dX8_flight_11 ?_
    refine aw_S1v dX8_flight_12 (c_isPoint (by first | assumption | omega | (constructor <;> omega) | exact hG _ _)) hbY_X8_isPoint hbm_X8_112 hbs_X8_isPoint (Nat.le_of_ble_eq_true rfl) ⟨by decide, by decide⟩ (by decide) (by decide) ?_
    refine aw_ifb_eq (tg := 41) dX8_flight_15 (by decide) (fun c15 => ?_) (fun c15 => ?_)
    · skip
      refine aw_iconst dX8_flight_41 ?_
      exact aw_S1x dX8_flight_42 (c_refuseN hl) hbY_X8_refuseUnless hbm_X8_116 hbs_X8_refuseUnless (Nat.le_of_ble_eq_true rfl) ⟨by decide, by decide⟩ (by decide) (by decide) rfl rfl rfl rfl
    · skip
      refine aw_ild3 dX8_flight_18 ?_
      refine aw_ldc (z := 100000) dX8_flight_19 hbk_X8_115 ?_
      refine aw_S2v dX8_flight_21 (c_isUpTo (by first | assumption | omega | (constructor <;> omega) | exact hG _ _) (by first | assumption | omega | (constructor <;> omega) | exact hG _ _)) hbY_X8_isUpTo hbm_X8_83 hbs_X8_isUpTo (Nat.le_of_ble_eq_true rfl) ⟨by decide, by decide⟩ (by decide) (by decide) ?_
      refine aw_ifb_eq (tg := 41) dX8_flight_24 (by decide) (fun c24 => ?_) (fun c24 => ?_)
      · skip
        refine aw_iconst dX8_flight_41 ?_
        exact aw_S1x dX8_flight_42 (c_refuseN hl) hbY_X8_refuseUnless hbm_X8_116 hbs_X8_refuseUnless (Nat.le_of_ble_eq_true rfl) ⟨by decide, by decide⟩ (by decide) (by decide) rfl rfl rfl rfl
      · skip
        refine aw_ild4 dX8_flight_27 ?_
        refine aw_ldc (z := 100000) dX8_flight_29 hbk_X8_115 ?_
        refine aw_S2v dX8_flight_31 (c_isUpTo (by first | assumption | omega | (constructor <;> omega) | exact hG _ _) (by first | assumption | omega | (constructor <;> omega) | exact hG _ _)) hbY_X8_isUpTo hbm_X8_83 hbs_X8_isUpTo (Nat.le_of_ble_eq_true rfl) ⟨by decide, by decide⟩ (by decide) (by decide) ?_
        refine aw_ifb_eq (tg := 41) dX8_flight_34 (by decide) (fun c34 => ?_) (fun c34 => ?_)
        · skip
          refine aw_iconst dX8_flight_41 ?_
          exact aw_S1x dX8_flight_42 (c_refuseN hl) hbY_X8_refuseUnless hbm_X8_116 hbs_X8_refuseUnless (Nat.le_of_ble_eq_true rfl) ⟨by decide, by decide⟩ (by decide) (by decide) rfl rfl rfl rfl
        · skip
          exact absurd ⟨by assumption, by assumption, by assumption, by assumption⟩ hP
set_option maxRecDepth 20000 in
set_option maxHeartbeats 1000000 in
theorem c_flightY {l : Launch} {G : hb_G} {F : hb_F} {na : Nat} {m p a b : Int} (im : hb_in m) (ip : hb_in p) (ia : hb_in a) (ib : hb_in b) (hP : ((0 ≤ m ∧ m < 40 ∧ G 7 m ≠ -1) ∧ ¬ ∃ i, 0 ≤ i ∧ i < 48 ∧ G 2 i = G 7 m) ∧ (0 ≤ p ∧ p ≤ 3000099) ∧ (0 ≤ a ∧ a ≤ 100000) ∧ (0 ≤ b ∧ b ≤ 100000)) {G1 : hb_G} {F1 : hb_F} {v : Int} (hE : hb_M l yX8_enter cX8_enter 3 (some .int) 5 0 0 [hb_r 0, hb_r (77 + na)] (hb_w (hb_u1 G (77 + na) (hb_er 2 m p 0 0 a b 0)) F (na + 1)) (77 + (na + 1)) (.inl (some (hb_i (v)))) (hb_w G1 F1 (na + 1)) (77 + (na + 1))) (hG : hb_rg G) : hb_M l yX8_flight cX8_flight 6 (some .int) 7 1 9 [hb_r 0, hb_i m, hb_i p, hb_i a, hb_i b] (hb_w G F na) (77 + na) (.inl (some (hb_i (v)))) (hb_w G1 F1 (na + 1)) (77 + (na + 1)) := by
  refine hb_M_in rfl rfl (by decide) rfl (Nat.le_of_ble_eq_true rfl) ?_
  intro E z0 σ0
  refine aw_ald0 dX8_flight_0 ?_
  refine aw_getf dX8_flight_1 hbf_X8_21 rfl rfl ?_
  refine aw_ild1 dX8_flight_4 ?_
  refine aw_V1v dX8_flight_5 (c_isMachine (by first | assumption | omega | (constructor <;> omega) | exact hG _ _) hG) rfl rfl hbY_X6_isMachine hbm_X8_109 hbi_X6_isMachine hbe_X6_X6_isMachine (Nat.le_of_ble_eq_true rfl) ⟨by decide, by decide⟩ (by decide) (by decide) ?_
  refine aw_ifb_eq (tg := 41) dX8_flight_8 (by decide) (fun c8 => absurd c8 (by exact fun h8 => h8 hP.1)) (fun c8 => ?_)
  refine aw_ild2 dX8_flight_11 ?_
  refine aw_S1v dX8_flight_12 (c_isPoint (by first | assumption | omega | (constructor <;> omega) | exact hG _ _)) hbY_X8_isPoint hbm_X8_112 hbs_X8_isPoint (Nat.le_of_ble_eq_true rfl) ⟨by decide, by decide⟩ (by decide) (by decide) ?_
  refine aw_ifb_eq (tg := 41) dX8_flight_15 (by decide) (fun c15 => absurd c15 (by exact fun h8 => h8 hP.2.1)) (fun c15 => ?_)
  refine aw_ild3 dX8_flight_18 ?_
  refine aw_ldc (z := 100000) dX8_flight_19 hbk_X8_115 ?_
  refine aw_S2v dX8_flight_21 (c_isUpTo (by first | assumption | omega | (constructor <;> omega) | exact hG _ _) (by first | assumption | omega | (constructor <;> omega) | exact hG _ _)) hbY_X8_isUpTo hbm_X8_83 hbs_X8_isUpTo (Nat.le_of_ble_eq_true rfl) ⟨by decide, by decide⟩ (by decide) (by decide) ?_
  refine aw_ifb_eq (tg := 41) dX8_flight_24 (by decide) (fun c24 => absurd c24 (by exact fun h8 => h8 hP.2.2.1)) (fun c24 => ?_)
  refine aw_ild4 dX8_flight_27 ?_
  refine aw_ldc (z := 100000) dX8_flight_29 hbk_X8_115 ?_
  refine aw_S2v dX8_flight_31 (c_isUpTo (by first | assumption | omega | (constructor <;> omega) | exact hG _ _) (by first | assumption | omega | (constructor <;> omega) | exact hG _ _)) hbY_X8_isUpTo hbm_X8_83 hbs_X8_isUpTo (Nat.le_of_ble_eq_true rfl) ⟨by decide, by decide⟩ (by decide) (by decide) ?_
  refine aw_ifb_eq (tg := 41) dX8_flight_34 (by decide) (fun c34 => absurd c34 (by exact fun h8 => h8 hP.2.2.2)) (fun c34 => ?_)
  refine aw_iconst dX8_flight_37 ?_
  refine aw_goto (tg := 42) dX8_flight_38 (by decide) ?_
  refine aw_S1n dX8_flight_42 c_refuseY hbY_X8_refuseUnless hbm_X8_116 hbs_X8_refuseUnless (Nat.le_of_ble_eq_true rfl) ⟨by decide, by decide⟩ (by decide) (by decide) ?_
  refine aw_newE dX8_flight_45 hbc_X8_120 (by decide) (by decide) (hb_nwi (by intro p hp; simp at hp <;> omega)) (hb_nwi (by intro p hp; simp at hp <;> omega)) ?_
  refine aw_dup dX8_flight_48 rfl ?_
  refine aw_iconst dX8_flight_49 ?_
  refine aw_ild1 dX8_flight_50 ?_
  refine aw_ild2 dX8_flight_51 ?_
  refine aw_I3n dX8_flight_52 (c_entryInit (Nat.lt_succ_self na)) hbY_X1_init hbm_X8_122 hbi_X1_init rfl (Nat.le_of_ble_eq_true rfl) ⟨by decide, by decide⟩ (by decide) (by decide) hb_nw.rf hb_nw.rf ?_
  refine aw_G (G2 := hb_u1 G (77 + na) (hb_er 2 m p 0 0 0 0 0)) (by rw [hb_u2_u1, hb_u2_u1, hb_u2_u1, hb_er0]) ?_
  refine aw_apu5 dX8_flight_55 (by decide) ?_
  refine aw_ald5 dX8_flight_57 ?_
  refine aw_ild3 dX8_flight_59 ?_
  refine aw_putw dX8_flight_60 hbf_X8_125 hbS_X1 (fun C T n h9 => by cases h9; exact ⟨rfl, by decide +kernel, fun h8 => by cases h8⟩) (hb_pe (Nat.lt_succ_self na)) (hb_ce _ _ _) (by rw [hb_ce]; rfl) ?_
  refine aw_G (G2 := hb_u1 G (77 + na) (hb_er 2 m p 0 0 a 0 0)) (by rw [hb_u2_u1]; exact congrArg (hb_u1 G _) hb_er6) ?_
  refine aw_ald5 dX8_flight_63 ?_
  refine aw_ild4 dX8_flight_65 ?_
  refine aw_putw dX8_flight_67 hbf_X8_128 hbS_X1 (fun C T n h9 => by cases h9; exact ⟨rfl, by decide +kernel, fun h8 => by cases h8⟩) (hb_pe (Nat.lt_succ_self na)) (hb_ce _ _ _) (by rw [hb_ce]; rfl) ?_
  refine aw_G (G2 := hb_u1 G (77 + na) (hb_er 2 m p 0 0 a b 0)) (by rw [hb_u2_u1]; exact congrArg (hb_u1 G _) hb_er7) ?_
  refine aw_ald0 dX8_flight_70 ?_
  refine aw_ald5 dX8_flight_71 ?_
  refine aw_V1v dX8_flight_73 hE rfl rfl hbY_X8_enter hbm_X8_131 hbi_X8_enter hbe_X8_X8_enter (Nat.le_of_ble_eq_true rfl) ⟨by decide, by decide⟩ (by decide) (by decide) ?_
  exact aw_iret dX8_flight_76 rfl (by rfl) rfl rfl (by decide) (by decide)
set_option maxRecDepth 20000 in
set_option maxHeartbeats 1000000 in
theorem c_flightX {l : Launch} {G : hb_G} {F : hb_F} {na : Nat} {m p a b : Int} (im : hb_in m) (ip : hb_in p) (ia : hb_in a) (ib : hb_in b) (hP : ((0 ≤ m ∧ m < 40 ∧ G 7 m ≠ -1) ∧ ¬ ∃ i, 0 ≤ i ∧ i < 48 ∧ G 2 i = G 7 m) ∧ (0 ≤ p ∧ p ≤ 3000099) ∧ (0 ≤ a ∧ a ≤ 100000) ∧ (0 ≤ b ∧ b ≤ 100000)) {G1 : hb_G} {F1 : hb_F} (hE : hb_M l yX8_enter cX8_enter 3 (some .int) 6 1 6 [hb_r 0, hb_r (77 + na)] (hb_w (hb_u1 G (77 + na) (hb_er 2 m p 0 0 a b 0)) F (na + 1)) (77 + (na + 1)) (.inr "java/lang/IllegalStateException") (hb_w G1 F1 (na + 1)) (77 + (na + 1))) (hG : hb_rg G) : hb_M l yX8_flight cX8_flight 6 (some .int) 7 2 15 [hb_r 0, hb_i m, hb_i p, hb_i a, hb_i b] (hb_w G F na) (77 + na) (.inr "java/lang/IllegalStateException") (hb_w G1 F1 (na + 1)) (77 + (na + 1)) := by
  refine hb_M_in rfl rfl (by decide) rfl (Nat.le_of_ble_eq_true rfl) ?_
  intro E z0 σ0
  refine aw_ald0 dX8_flight_0 ?_
  refine aw_getf dX8_flight_1 hbf_X8_21 rfl rfl ?_
  refine aw_ild1 dX8_flight_4 ?_
  refine aw_V1v dX8_flight_5 (c_isMachine (by first | assumption | omega | (constructor <;> omega) | exact hG _ _) hG) rfl rfl hbY_X6_isMachine hbm_X8_109 hbi_X6_isMachine hbe_X6_X6_isMachine (Nat.le_of_ble_eq_true rfl) ⟨by decide, by decide⟩ (by decide) (by decide) ?_
  refine aw_ifb_eq (tg := 41) dX8_flight_8 (by decide) (fun c8 => absurd c8 (by exact fun h8 => h8 hP.1)) (fun c8 => ?_)
  refine aw_ild2 dX8_flight_11 ?_
  refine aw_S1v dX8_flight_12 (c_isPoint (by first | assumption | omega | (constructor <;> omega) | exact hG _ _)) hbY_X8_isPoint hbm_X8_112 hbs_X8_isPoint (Nat.le_of_ble_eq_true rfl) ⟨by decide, by decide⟩ (by decide) (by decide) ?_
  refine aw_ifb_eq (tg := 41) dX8_flight_15 (by decide) (fun c15 => absurd c15 (by exact fun h8 => h8 hP.2.1)) (fun c15 => ?_)
  refine aw_ild3 dX8_flight_18 ?_
  refine aw_ldc (z := 100000) dX8_flight_19 hbk_X8_115 ?_
  refine aw_S2v dX8_flight_21 (c_isUpTo (by first | assumption | omega | (constructor <;> omega) | exact hG _ _) (by first | assumption | omega | (constructor <;> omega) | exact hG _ _)) hbY_X8_isUpTo hbm_X8_83 hbs_X8_isUpTo (Nat.le_of_ble_eq_true rfl) ⟨by decide, by decide⟩ (by decide) (by decide) ?_
  refine aw_ifb_eq (tg := 41) dX8_flight_24 (by decide) (fun c24 => absurd c24 (by exact fun h8 => h8 hP.2.2.1)) (fun c24 => ?_)
  refine aw_ild4 dX8_flight_27 ?_
  refine aw_ldc (z := 100000) dX8_flight_29 hbk_X8_115 ?_
  refine aw_S2v dX8_flight_31 (c_isUpTo (by first | assumption | omega | (constructor <;> omega) | exact hG _ _) (by first | assumption | omega | (constructor <;> omega) | exact hG _ _)) hbY_X8_isUpTo hbm_X8_83 hbs_X8_isUpTo (Nat.le_of_ble_eq_true rfl) ⟨by decide, by decide⟩ (by decide) (by decide) ?_
  refine aw_ifb_eq (tg := 41) dX8_flight_34 (by decide) (fun c34 => absurd c34 (by exact fun h8 => h8 hP.2.2.2)) (fun c34 => ?_)
  refine aw_iconst dX8_flight_37 ?_
  refine aw_goto (tg := 42) dX8_flight_38 (by decide) ?_
  refine aw_S1n dX8_flight_42 c_refuseY hbY_X8_refuseUnless hbm_X8_116 hbs_X8_refuseUnless (Nat.le_of_ble_eq_true rfl) ⟨by decide, by decide⟩ (by decide) (by decide) ?_
  refine aw_newE dX8_flight_45 hbc_X8_120 (by decide) (by decide) (hb_nwi (by intro p hp; simp at hp <;> omega)) (hb_nwi (by intro p hp; simp at hp <;> omega)) ?_
  refine aw_dup dX8_flight_48 rfl ?_
  refine aw_iconst dX8_flight_49 ?_
  refine aw_ild1 dX8_flight_50 ?_
  refine aw_ild2 dX8_flight_51 ?_
  refine aw_I3n dX8_flight_52 (c_entryInit (Nat.lt_succ_self na)) hbY_X1_init hbm_X8_122 hbi_X1_init rfl (Nat.le_of_ble_eq_true rfl) ⟨by decide, by decide⟩ (by decide) (by decide) hb_nw.rf hb_nw.rf ?_
  refine aw_G (G2 := hb_u1 G (77 + na) (hb_er 2 m p 0 0 0 0 0)) (by rw [hb_u2_u1, hb_u2_u1, hb_u2_u1, hb_er0]) ?_
  refine aw_apu5 dX8_flight_55 (by decide) ?_
  refine aw_ald5 dX8_flight_57 ?_
  refine aw_ild3 dX8_flight_59 ?_
  refine aw_putw dX8_flight_60 hbf_X8_125 hbS_X1 (fun C T n h9 => by cases h9; exact ⟨rfl, by decide +kernel, fun h8 => by cases h8⟩) (hb_pe (Nat.lt_succ_self na)) (hb_ce _ _ _) (by rw [hb_ce]; rfl) ?_
  refine aw_G (G2 := hb_u1 G (77 + na) (hb_er 2 m p 0 0 a 0 0)) (by rw [hb_u2_u1]; exact congrArg (hb_u1 G _) hb_er6) ?_
  refine aw_ald5 dX8_flight_63 ?_
  refine aw_ild4 dX8_flight_65 ?_
  refine aw_putw dX8_flight_67 hbf_X8_128 hbS_X1 (fun C T n h9 => by cases h9; exact ⟨rfl, by decide +kernel, fun h8 => by cases h8⟩) (hb_pe (Nat.lt_succ_self na)) (hb_ce _ _ _) (by rw [hb_ce]; rfl) ?_
  refine aw_G (G2 := hb_u1 G (77 + na) (hb_er 2 m p 0 0 a b 0)) (by rw [hb_u2_u1]; exact congrArg (hb_u1 G _) hb_er7) ?_
  refine aw_ald0 dX8_flight_70 ?_
  refine aw_ald5 dX8_flight_71 ?_
  exact aw_V1x dX8_flight_73 hE rfl rfl hbY_X8_enter hbm_X8_131 hbi_X8_enter hbe_X8_X8_enter (Nat.le_of_ble_eq_true rfl) ⟨by decide, by decide⟩ (by decide) (by decide) rfl rfl rfl rfl
set_option maxRecDepth 20000 in
set_option maxHeartbeats 1000000 in
theorem c_putR {l : Launch} {G : hb_G} {F : hb_F} {na : Nat} (hl : l.stackTraces = false) {t u q p : Int} (it : hb_in t) (iu : hb_in u) (iq : hb_in q) (ip : hb_in p) (hP : ¬ ((0 ≤ t ∧ t < 40 ∧ G 7 t ≠ -1) ∧ (0 ≤ u ∧ u < 40 ∧ G 7 u ≠ -1) ∧ (0 ≤ q ∧ q < 4) ∧ (0 ≤ p ∧ p ≤ 3000099))) (hG : hb_rg G) : hb_M l yX8_put cX8_put 6 (some .int) 7 1 6 [hb_r 0, hb_i t, hb_i u, hb_i q, hb_i p] (hb_w G F na) (77 + na) (.inr "java/lang/IllegalArgumentException") (hb_w G F na) (77 + na) := by
  refine hb_M_in rfl rfl (by decide) rfl (Nat.le_of_ble_eq_true rfl) ?_
  intro E z0 σ0
  refine aw_ald0 dX8_put_0 ?_
  refine aw_getf dX8_put_1 hbf_X8_21 rfl rfl ?_
  refine aw_ild1 dX8_put_4 ?_
  refine aw_V1v dX8_put_5 (c_thingsHas (by first | assumption | omega | (constructor <;> omega) | exact hG _ _) hG) rfl rfl hbY_X6_has hbm_X8_75 hbi_X6_has hbe_X6_X6_has (Nat.le_of_ble_eq_true rfl) ⟨by decide, by decide⟩ (by decide) (by decide) ?_
  refine aw_ifb_eq (tg := 42) dX8_put_8 (by decide) (fun c8 => ?_) (fun c8 => ?_)
  · skip
    refine aw_iconst dX8_put_42 ?_
    exact aw_S1x dX8_put_43 (c_refuseN hl) hbY_X8_refuseUnless hbm_X8_116 hbs_X8_refuseUnless (Nat.le_of_ble_eq_true rfl) ⟨by decide, by decide⟩ (by decide) (by decide) rfl rfl rfl rfl
  · skip
    refine aw_ald0 dX8_put_11 ?_
    refine aw_getf dX8_put_12 hbf_X8_21 rfl rfl ?_
    refine aw_ild2 dX8_put_15 ?_
    refine aw_V1v dX8_put_16 (c_thingsHas (by first | assumption | omega | (constructor <;> omega) | exact hG _ _) hG) rfl rfl hbY_X6_has hbm_X8_75 hbi_X6_has hbe_X6_X6_has (Nat.le_of_ble_eq_true rfl) ⟨by decide, by decide⟩ (by decide) (by decide) ?_
    refine aw_ifb_eq (tg := 42) dX8_put_19 (by decide) (fun c19 => ?_) (fun c19 => ?_)
    · skip
      refine aw_iconst dX8_put_42 ?_
      exact aw_S1x dX8_put_43 (c_refuseN hl) hbY_X8_refuseUnless hbm_X8_116 hbs_X8_refuseUnless (Nat.le_of_ble_eq_true rfl) ⟨by decide, by decide⟩ (by decide) (by decide) rfl rfl rfl rfl
    · skip
      refine aw_ild3 dX8_put_22 ?_
      refine aw_iconst dX8_put_23 ?_
      refine aw_S2v dX8_put_24 (c_isBelow (by first | assumption | omega | (constructor <;> omega) | exact hG _ _) (by first | assumption | omega | (constructor <;> omega) | exact hG _ _)) hbY_X8_isBelow hbm_X8_64 hbs_X8_isBelow (Nat.le_of_ble_eq_true rfl) ⟨by decide, by decide⟩ (by decide) (by decide) ?_
      refine aw_ifb_eq (tg := 42) dX8_put_27 (by decide) (fun c27 => ?_) (fun c27 => ?_)
      · skip
        refine aw_iconst dX8_put_42 ?_
        exact aw_S1x dX8_put_43 (c_refuseN hl) hbY_X8_refuseUnless hbm_X8_116 hbs_X8_refuseUnless (Nat.le_of_ble_eq_true rfl) ⟨by decide, by decide⟩ (by decide) (by decide) rfl rfl rfl rfl
      · skip
        refine aw_ild4 dX8_put_30 ?_
        refine aw_S1v dX8_put_32 (c_isPoint (by first | assumption | omega | (constructor <;> omega) | exact hG _ _)) hbY_X8_isPoint hbm_X8_112 hbs_X8_isPoint (Nat.le_of_ble_eq_true rfl) ⟨by decide, by decide⟩ (by decide) (by decide) ?_
        refine aw_ifb_eq (tg := 42) dX8_put_35 (by decide) (fun c35 => ?_) (fun c35 => ?_)
        · skip
          refine aw_iconst dX8_put_42 ?_
          exact aw_S1x dX8_put_43 (c_refuseN hl) hbY_X8_refuseUnless hbm_X8_116 hbs_X8_refuseUnless (Nat.le_of_ble_eq_true rfl) ⟨by decide, by decide⟩ (by decide) (by decide) rfl rfl rfl rfl
        · skip
          exact absurd ⟨by assumption, by assumption, by assumption, by assumption⟩ hP
set_option maxRecDepth 20000 in
set_option maxHeartbeats 1000000 in
theorem c_putY {l : Launch} {G : hb_G} {F : hb_F} {na : Nat} {t u q p : Int} (it : hb_in t) (iu : hb_in u) (iq : hb_in q) (ip : hb_in p) (hP : (0 ≤ t ∧ t < 40 ∧ G 7 t ≠ -1) ∧ (0 ≤ u ∧ u < 40 ∧ G 7 u ≠ -1) ∧ (0 ≤ q ∧ q < 4) ∧ (0 ≤ p ∧ p ≤ 3000099)) {G1 : hb_G} {F1 : hb_F} {v : Int} (hE : hb_M l yX8_enter cX8_enter 3 (some .int) 5 0 0 [hb_r 0, hb_r (77 + na)] (hb_w (hb_u1 G (77 + na) (hb_er 0 t p u q 0 0 0)) F (na + 1)) (77 + (na + 1)) (.inl (some (hb_i (v)))) (hb_w G1 F1 (na + 1)) (77 + (na + 1))) (hG : hb_rg G) : hb_M l yX8_put cX8_put 6 (some .int) 7 1 9 [hb_r 0, hb_i t, hb_i u, hb_i q, hb_i p] (hb_w G F na) (77 + na) (.inl (some (hb_i (v)))) (hb_w G1 F1 (na + 1)) (77 + (na + 1)) := by
  refine hb_M_in rfl rfl (by decide) rfl (Nat.le_of_ble_eq_true rfl) ?_
  intro E z0 σ0
  refine aw_ald0 dX8_put_0 ?_
  refine aw_getf dX8_put_1 hbf_X8_21 rfl rfl ?_
  refine aw_ild1 dX8_put_4 ?_
  refine aw_V1v dX8_put_5 (c_thingsHas (by first | assumption | omega | (constructor <;> omega) | exact hG _ _) hG) rfl rfl hbY_X6_has hbm_X8_75 hbi_X6_has hbe_X6_X6_has (Nat.le_of_ble_eq_true rfl) ⟨by decide, by decide⟩ (by decide) (by decide) ?_
  refine aw_ifb_eq (tg := 42) dX8_put_8 (by decide) (fun c8 => absurd c8 (by exact fun h8 => h8 hP.1)) (fun c8 => ?_)
  refine aw_ald0 dX8_put_11 ?_
  refine aw_getf dX8_put_12 hbf_X8_21 rfl rfl ?_
  refine aw_ild2 dX8_put_15 ?_
  refine aw_V1v dX8_put_16 (c_thingsHas (by first | assumption | omega | (constructor <;> omega) | exact hG _ _) hG) rfl rfl hbY_X6_has hbm_X8_75 hbi_X6_has hbe_X6_X6_has (Nat.le_of_ble_eq_true rfl) ⟨by decide, by decide⟩ (by decide) (by decide) ?_
  refine aw_ifb_eq (tg := 42) dX8_put_19 (by decide) (fun c19 => absurd c19 (by exact fun h8 => h8 hP.2.1)) (fun c19 => ?_)
  refine aw_ild3 dX8_put_22 ?_
  refine aw_iconst dX8_put_23 ?_
  refine aw_S2v dX8_put_24 (c_isBelow (by first | assumption | omega | (constructor <;> omega) | exact hG _ _) (by first | assumption | omega | (constructor <;> omega) | exact hG _ _)) hbY_X8_isBelow hbm_X8_64 hbs_X8_isBelow (Nat.le_of_ble_eq_true rfl) ⟨by decide, by decide⟩ (by decide) (by decide) ?_
  refine aw_ifb_eq (tg := 42) dX8_put_27 (by decide) (fun c27 => absurd c27 (by exact fun h8 => h8 hP.2.2.1)) (fun c27 => ?_)
  refine aw_ild4 dX8_put_30 ?_
  refine aw_S1v dX8_put_32 (c_isPoint (by first | assumption | omega | (constructor <;> omega) | exact hG _ _)) hbY_X8_isPoint hbm_X8_112 hbs_X8_isPoint (Nat.le_of_ble_eq_true rfl) ⟨by decide, by decide⟩ (by decide) (by decide) ?_
  refine aw_ifb_eq (tg := 42) dX8_put_35 (by decide) (fun c35 => absurd c35 (by exact fun h8 => h8 hP.2.2.2)) (fun c35 => ?_)
  refine aw_iconst dX8_put_38 ?_
  refine aw_goto (tg := 43) dX8_put_39 (by decide) ?_
  refine aw_S1n dX8_put_43 c_refuseY hbY_X8_refuseUnless hbm_X8_116 hbs_X8_refuseUnless (Nat.le_of_ble_eq_true rfl) ⟨by decide, by decide⟩ (by decide) (by decide) ?_
  refine aw_newE dX8_put_46 hbc_X8_120 (by decide) (by decide) (hb_nwi (by intro p hp; simp at hp <;> omega)) (hb_nwi (by intro p hp; simp at hp <;> omega)) ?_
  refine aw_dup dX8_put_49 rfl ?_
  refine aw_iconst dX8_put_50 ?_
  refine aw_ild1 dX8_put_51 ?_
  refine aw_ild4 dX8_put_52 ?_
  refine aw_I3n dX8_put_54 (c_entryInit (Nat.lt_succ_self na)) hbY_X1_init hbm_X8_122 hbi_X1_init rfl (Nat.le_of_ble_eq_true rfl) ⟨by decide, by decide⟩ (by decide) (by decide) hb_nw.rf hb_nw.rf ?_
  refine aw_G (G2 := hb_u1 G (77 + na) (hb_er 0 t p 0 0 0 0 0)) (by rw [hb_u2_u1, hb_u2_u1, hb_u2_u1, hb_er0]) ?_
  refine aw_apu5 dX8_put_57 (by decide) ?_
  refine aw_ald5 dX8_put_59 ?_
  refine aw_ild2 dX8_put_61 ?_
  refine aw_putw dX8_put_62 hbf_X8_135 hbS_X1 (fun C T n h9 => by cases h9; exact ⟨rfl, by decide +kernel, fun h8 => by cases h8⟩) (hb_pe (Nat.lt_succ_self na)) (hb_ce _ _ _) (by rw [hb_ce]; rfl) ?_
  refine aw_G (G2 := hb_u1 G (77 + na) (hb_er 0 t p u 0 0 0 0)) (by rw [hb_u2_u1]; exact congrArg (hb_u1 G _) hb_er4) ?_
  refine aw_ald5 dX8_put_65 ?_
  refine aw_ild3 dX8_put_67 ?_
  refine aw_putw dX8_put_68 hbf_X8_138 hbS_X1 (fun C T n h9 => by cases h9; exact ⟨rfl, by decide +kernel, fun h8 => by cases h8⟩) (hb_pe (Nat.lt_succ_self na)) (hb_ce _ _ _) (by rw [hb_ce]; rfl) ?_
  refine aw_G (G2 := hb_u1 G (77 + na) (hb_er 0 t p u q 0 0 0)) (by rw [hb_u2_u1]; exact congrArg (hb_u1 G _) hb_er5) ?_
  refine aw_ald0 dX8_put_71 ?_
  refine aw_ald5 dX8_put_72 ?_
  refine aw_V1v dX8_put_74 hE rfl rfl hbY_X8_enter hbm_X8_131 hbi_X8_enter hbe_X8_X8_enter (Nat.le_of_ble_eq_true rfl) ⟨by decide, by decide⟩ (by decide) (by decide) ?_
  exact aw_iret dX8_put_77 rfl (by rfl) rfl rfl (by decide) (by decide)
set_option maxRecDepth 20000 in
set_option maxHeartbeats 1000000 in
theorem c_putX {l : Launch} {G : hb_G} {F : hb_F} {na : Nat} {t u q p : Int} (it : hb_in t) (iu : hb_in u) (iq : hb_in q) (ip : hb_in p) (hP : (0 ≤ t ∧ t < 40 ∧ G 7 t ≠ -1) ∧ (0 ≤ u ∧ u < 40 ∧ G 7 u ≠ -1) ∧ (0 ≤ q ∧ q < 4) ∧ (0 ≤ p ∧ p ≤ 3000099)) {G1 : hb_G} {F1 : hb_F} (hE : hb_M l yX8_enter cX8_enter 3 (some .int) 6 1 6 [hb_r 0, hb_r (77 + na)] (hb_w (hb_u1 G (77 + na) (hb_er 0 t p u q 0 0 0)) F (na + 1)) (77 + (na + 1)) (.inr "java/lang/IllegalStateException") (hb_w G1 F1 (na + 1)) (77 + (na + 1))) (hG : hb_rg G) : hb_M l yX8_put cX8_put 6 (some .int) 7 2 15 [hb_r 0, hb_i t, hb_i u, hb_i q, hb_i p] (hb_w G F na) (77 + na) (.inr "java/lang/IllegalStateException") (hb_w G1 F1 (na + 1)) (77 + (na + 1)) := by
  refine hb_M_in rfl rfl (by decide) rfl (Nat.le_of_ble_eq_true rfl) ?_
  intro E z0 σ0
  refine aw_ald0 dX8_put_0 ?_
  refine aw_getf dX8_put_1 hbf_X8_21 rfl rfl ?_
  refine aw_ild1 dX8_put_4 ?_
  refine aw_V1v dX8_put_5 (c_thingsHas (by first | assumption | omega | (constructor <;> omega) | exact hG _ _) hG) rfl rfl hbY_X6_has hbm_X8_75 hbi_X6_has hbe_X6_X6_has (Nat.le_of_ble_eq_true rfl) ⟨by decide, by decide⟩ (by decide) (by decide) ?_
  refine aw_ifb_eq (tg := 42) dX8_put_8 (by decide) (fun c8 => absurd c8 (by exact fun h8 => h8 hP.1)) (fun c8 => ?_)
  refine aw_ald0 dX8_put_11 ?_
  refine aw_getf dX8_put_12 hbf_X8_21 rfl rfl ?_
  refine aw_ild2 dX8_put_15 ?_
  refine aw_V1v dX8_put_16 (c_thingsHas (by first | assumption | omega | (constructor <;> omega) | exact hG _ _) hG) rfl rfl hbY_X6_has hbm_X8_75 hbi_X6_has hbe_X6_X6_has (Nat.le_of_ble_eq_true rfl) ⟨by decide, by decide⟩ (by decide) (by decide) ?_
  refine aw_ifb_eq (tg := 42) dX8_put_19 (by decide) (fun c19 => absurd c19 (by exact fun h8 => h8 hP.2.1)) (fun c19 => ?_)
  refine aw_ild3 dX8_put_22 ?_
  refine aw_iconst dX8_put_23 ?_
  refine aw_S2v dX8_put_24 (c_isBelow (by first | assumption | omega | (constructor <;> omega) | exact hG _ _) (by first | assumption | omega | (constructor <;> omega) | exact hG _ _)) hbY_X8_isBelow hbm_X8_64 hbs_X8_isBelow (Nat.le_of_ble_eq_true rfl) ⟨by decide, by decide⟩ (by decide) (by decide) ?_
  refine aw_ifb_eq (tg := 42) dX8_put_27 (by decide) (fun c27 => absurd c27 (by exact fun h8 => h8 hP.2.2.1)) (fun c27 => ?_)
  refine aw_ild4 dX8_put_30 ?_
  refine aw_S1v dX8_put_32 (c_isPoint (by first | assumption | omega | (constructor <;> omega) | exact hG _ _)) hbY_X8_isPoint hbm_X8_112 hbs_X8_isPoint (Nat.le_of_ble_eq_true rfl) ⟨by decide, by decide⟩ (by decide) (by decide) ?_
  refine aw_ifb_eq (tg := 42) dX8_put_35 (by decide) (fun c35 => absurd c35 (by exact fun h8 => h8 hP.2.2.2)) (fun c35 => ?_)
  refine aw_iconst dX8_put_38 ?_
  refine aw_goto (tg := 43) dX8_put_39 (by decide) ?_
  refine aw_S1n dX8_put_43 c_refuseY hbY_X8_refuseUnless hbm_X8_116 hbs_X8_refuseUnless (Nat.le_of_ble_eq_true rfl) ⟨by decide, by decide⟩ (by decide) (by decide) ?_
  refine aw_newE dX8_put_46 hbc_X8_120 (by decide) (by decide) (hb_nwi (by intro p hp; simp at hp <;> omega)) (hb_nwi (by intro p hp; simp at hp <;> omega)) ?_
  refine aw_dup dX8_put_49 rfl ?_
  refine aw_iconst dX8_put_50 ?_
  refine aw_ild1 dX8_put_51 ?_
  refine aw_ild4 dX8_put_52 ?_
  refine aw_I3n dX8_put_54 (c_entryInit (Nat.lt_succ_self na)) hbY_X1_init hbm_X8_122 hbi_X1_init rfl (Nat.le_of_ble_eq_true rfl) ⟨by decide, by decide⟩ (by decide) (by decide) hb_nw.rf hb_nw.rf ?_
  refine aw_G (G2 := hb_u1 G (77 + na) (hb_er 0 t p 0 0 0 0 0)) (by rw [hb_u2_u1, hb_u2_u1, hb_u2_u1, hb_er0]) ?_
  refine aw_apu5 dX8_put_57 (by decide) ?_
  refine aw_ald5 dX8_put_59 ?_
  refine aw_ild2 dX8_put_61 ?_
  refine aw_putw dX8_put_62 hbf_X8_135 hbS_X1 (fun C T n h9 => by cases h9; exact ⟨rfl, by decide +kernel, fun h8 => by cases h8⟩) (hb_pe (Nat.lt_succ_self na)) (hb_ce _ _ _) (by rw [hb_ce]; rfl) ?_
  refine aw_G (G2 := hb_u1 G (77 + na) (hb_er 0 t p u 0 0 0 0)) (by rw [hb_u2_u1]; exact congrArg (hb_u1 G _) hb_er4) ?_
  refine aw_ald5 dX8_put_65 ?_
  refine aw_ild3 dX8_put_67 ?_
  refine aw_putw dX8_put_68 hbf_X8_138 hbS_X1 (fun C T n h9 => by cases h9; exact ⟨rfl, by decide +kernel, fun h8 => by cases h8⟩) (hb_pe (Nat.lt_succ_self na)) (hb_ce _ _ _) (by rw [hb_ce]; rfl) ?_
  refine aw_G (G2 := hb_u1 G (77 + na) (hb_er 0 t p u q 0 0 0)) (by rw [hb_u2_u1]; exact congrArg (hb_u1 G _) hb_er5) ?_
  refine aw_ald0 dX8_put_71 ?_
  refine aw_ald5 dX8_put_72 ?_
  exact aw_V1x dX8_put_74 hE rfl rfl hbY_X8_enter hbm_X8_131 hbi_X8_enter hbe_X8_X8_enter (Nat.le_of_ble_eq_true rfl) ⟨by decide, by decide⟩ (by decide) (by decide) rfl rfl rfl rfl
set_option maxRecDepth 20000 in
set_option maxHeartbeats 1000000 in
theorem c_doneR {l : Launch} {G : hb_G} {F : hb_F} {na : Nat} (hl : l.stackTraces = false) {t k p : Int} (it : hb_in t) (ik : hb_in k) (ip : hb_in p) (hP : ¬ ((0 ≤ t ∧ t < 40 ∧ G 7 t ≠ -1) ∧ (0 ≤ k ∧ k < 16 ∧ G 13 k ≠ -1) ∧ (0 ≤ p ∧ p ≤ 3000099))) (hG : hb_rg G) : hb_M l yX8_done cX8_done 5 (some .int) 7 1 6 [hb_r 0, hb_i t, hb_i k, hb_i p] (hb_w G F na) (77 + na) (.inr "java/lang/IllegalArgumentException") (hb_w G F na) (77 + na) := by
  refine hb_M_in rfl rfl (by decide) rfl (Nat.le_of_ble_eq_true rfl) ?_
  intro E z0 σ0
  refine aw_ald0 dX8_done_0 ?_
  refine aw_getf dX8_done_1 hbf_X8_21 rfl rfl ?_
  refine aw_ild1 dX8_done_4 ?_
  refine aw_V1v dX8_done_5 (c_thingsHas (by first | assumption | omega | (constructor <;> omega) | exact hG _ _) hG) rfl rfl hbY_X6_has hbm_X8_75 hbi_X6_has hbe_X6_X6_has (Nat.le_of_ble_eq_true rfl) ⟨by decide, by decide⟩ (by decide) (by decide) ?_
  refine aw_ifb_eq (tg := 33) dX8_done_8 (by decide) (fun c8 => ?_) (fun c8 => ?_)
  · skip
    refine aw_iconst dX8_done_33 ?_
    exact aw_S1x dX8_done_34 (c_refuseN hl) hbY_X8_refuseUnless hbm_X8_116 hbs_X8_refuseUnless (Nat.le_of_ble_eq_true rfl) ⟨by decide, by decide⟩ (by decide) (by decide) rfl rfl rfl rfl
  · skip
    refine aw_ald0 dX8_done_11 ?_
    refine aw_getf dX8_done_12 hbf_X8_28 rfl rfl ?_
    refine aw_ild2 dX8_done_15 ?_
    refine aw_V1v dX8_done_16 (c_tasksHas (by first | assumption | omega | (constructor <;> omega) | exact hG _ _) hG) rfl rfl hbY_X5_has hbm_X8_93 hbi_X5_has hbe_X5_X5_has (Nat.le_of_ble_eq_true rfl) ⟨by decide, by decide⟩ (by decide) (by decide) ?_
    refine aw_ifb_eq (tg := 33) dX8_done_19 (by decide) (fun c19 => ?_) (fun c19 => ?_)
    · skip
      refine aw_iconst dX8_done_33 ?_
      exact aw_S1x dX8_done_34 (c_refuseN hl) hbY_X8_refuseUnless hbm_X8_116 hbs_X8_refuseUnless (Nat.le_of_ble_eq_true rfl) ⟨by decide, by decide⟩ (by decide) (by decide) rfl rfl rfl rfl
    · skip
      refine aw_ild3 dX8_done_22 ?_
      refine aw_S1v dX8_done_23 (c_isPoint (by first | assumption | omega | (constructor <;> omega) | exact hG _ _)) hbY_X8_isPoint hbm_X8_112 hbs_X8_isPoint (Nat.le_of_ble_eq_true rfl) ⟨by decide, by decide⟩ (by decide) (by decide) ?_
      refine aw_ifb_eq (tg := 33) dX8_done_26 (by decide) (fun c26 => ?_) (fun c26 => ?_)
      · skip
        refine aw_iconst dX8_done_33 ?_
        exact aw_S1x dX8_done_34 (c_refuseN hl) hbY_X8_refuseUnless hbm_X8_116 hbs_X8_refuseUnless (Nat.le_of_ble_eq_true rfl) ⟨by decide, by decide⟩ (by decide) (by decide) rfl rfl rfl rfl
      · skip
        exact absurd ⟨by assumption, by assumption, by assumption⟩ hP
set_option maxRecDepth 20000 in
set_option maxHeartbeats 1000000 in
theorem c_doneY {l : Launch} {G : hb_G} {F : hb_F} {na : Nat} {t k p : Int} (it : hb_in t) (ik : hb_in k) (ip : hb_in p) (hP : (0 ≤ t ∧ t < 40 ∧ G 7 t ≠ -1) ∧ (0 ≤ k ∧ k < 16 ∧ G 13 k ≠ -1) ∧ (0 ≤ p ∧ p ≤ 3000099)) {G1 : hb_G} {F1 : hb_F} {v : Int} (hE : hb_M l yX8_enter cX8_enter 3 (some .int) 5 0 0 [hb_r 0, hb_r (77 + na)] (hb_w (hb_u1 G (77 + na) (hb_er 3 t p k 0 0 0 0)) F (na + 1)) (77 + (na + 1)) (.inl (some (hb_i (v)))) (hb_w G1 F1 (na + 1)) (77 + (na + 1))) (hG : hb_rg G) : hb_M l yX8_done cX8_done 5 (some .int) 7 1 9 [hb_r 0, hb_i t, hb_i k, hb_i p] (hb_w G F na) (77 + na) (.inl (some (hb_i (v)))) (hb_w G1 F1 (na + 1)) (77 + (na + 1)) := by
  refine hb_M_in rfl rfl (by decide) rfl (Nat.le_of_ble_eq_true rfl) ?_
  intro E z0 σ0
  refine aw_ald0 dX8_done_0 ?_
  refine aw_getf dX8_done_1 hbf_X8_21 rfl rfl ?_
  refine aw_ild1 dX8_done_4 ?_
  refine aw_V1v dX8_done_5 (c_thingsHas (by first | assumption | omega | (constructor <;> omega) | exact hG _ _) hG) rfl rfl hbY_X6_has hbm_X8_75 hbi_X6_has hbe_X6_X6_has (Nat.le_of_ble_eq_true rfl) ⟨by decide, by decide⟩ (by decide) (by decide) ?_
  refine aw_ifb_eq (tg := 33) dX8_done_8 (by decide) (fun c8 => absurd c8 (by exact fun h8 => h8 hP.1)) (fun c8 => ?_)
  refine aw_ald0 dX8_done_11 ?_
  refine aw_getf dX8_done_12 hbf_X8_28 rfl rfl ?_
  refine aw_ild2 dX8_done_15 ?_
  refine aw_V1v dX8_done_16 (c_tasksHas (by first | assumption | omega | (constructor <;> omega) | exact hG _ _) hG) rfl rfl hbY_X5_has hbm_X8_93 hbi_X5_has hbe_X5_X5_has (Nat.le_of_ble_eq_true rfl) ⟨by decide, by decide⟩ (by decide) (by decide) ?_
  refine aw_ifb_eq (tg := 33) dX8_done_19 (by decide) (fun c19 => absurd c19 (by exact fun h8 => h8 hP.2.1)) (fun c19 => ?_)
  refine aw_ild3 dX8_done_22 ?_
  refine aw_S1v dX8_done_23 (c_isPoint (by first | assumption | omega | (constructor <;> omega) | exact hG _ _)) hbY_X8_isPoint hbm_X8_112 hbs_X8_isPoint (Nat.le_of_ble_eq_true rfl) ⟨by decide, by decide⟩ (by decide) (by decide) ?_
  refine aw_ifb_eq (tg := 33) dX8_done_26 (by decide) (fun c26 => absurd c26 (by exact fun h8 => h8 hP.2.2)) (fun c26 => ?_)
  refine aw_iconst dX8_done_29 ?_
  refine aw_goto (tg := 34) dX8_done_30 (by decide) ?_
  refine aw_S1n dX8_done_34 c_refuseY hbY_X8_refuseUnless hbm_X8_116 hbs_X8_refuseUnless (Nat.le_of_ble_eq_true rfl) ⟨by decide, by decide⟩ (by decide) (by decide) ?_
  refine aw_newE dX8_done_37 hbc_X8_120 (by decide) (by decide) (hb_nwi (by intro p hp; simp at hp <;> omega)) (hb_nwi (by intro p hp; simp at hp <;> omega)) ?_
  refine aw_dup dX8_done_40 rfl ?_
  refine aw_iconst dX8_done_41 ?_
  refine aw_ild1 dX8_done_42 ?_
  refine aw_ild3 dX8_done_43 ?_
  refine aw_I3n dX8_done_44 (c_entryInit (Nat.lt_succ_self na)) hbY_X1_init hbm_X8_122 hbi_X1_init rfl (Nat.le_of_ble_eq_true rfl) ⟨by decide, by decide⟩ (by decide) (by decide) hb_nw.rf hb_nw.rf ?_
  refine aw_G (G2 := hb_u1 G (77 + na) (hb_er 3 t p 0 0 0 0 0)) (by rw [hb_u2_u1, hb_u2_u1, hb_u2_u1, hb_er0]) ?_
  refine aw_apu4 dX8_done_47 (by decide) ?_
  refine aw_ald4 dX8_done_49 ?_
  refine aw_ild2 dX8_done_51 ?_
  refine aw_putw dX8_done_52 hbf_X8_135 hbS_X1 (fun C T n h9 => by cases h9; exact ⟨rfl, by decide +kernel, fun h8 => by cases h8⟩) (hb_pe (Nat.lt_succ_self na)) (hb_ce _ _ _) (by rw [hb_ce]; rfl) ?_
  refine aw_G (G2 := hb_u1 G (77 + na) (hb_er 3 t p k 0 0 0 0)) (by rw [hb_u2_u1]; exact congrArg (hb_u1 G _) hb_er4) ?_
  refine aw_ald0 dX8_done_55 ?_
  refine aw_ald4 dX8_done_56 ?_
  refine aw_V1v dX8_done_58 hE rfl rfl hbY_X8_enter hbm_X8_131 hbi_X8_enter hbe_X8_X8_enter (Nat.le_of_ble_eq_true rfl) ⟨by decide, by decide⟩ (by decide) (by decide) ?_
  exact aw_iret dX8_done_61 rfl (by rfl) rfl rfl (by decide) (by decide)
set_option maxRecDepth 20000 in
set_option maxHeartbeats 1000000 in
theorem c_doneX {l : Launch} {G : hb_G} {F : hb_F} {na : Nat} {t k p : Int} (it : hb_in t) (ik : hb_in k) (ip : hb_in p) (hP : (0 ≤ t ∧ t < 40 ∧ G 7 t ≠ -1) ∧ (0 ≤ k ∧ k < 16 ∧ G 13 k ≠ -1) ∧ (0 ≤ p ∧ p ≤ 3000099)) {G1 : hb_G} {F1 : hb_F} (hE : hb_M l yX8_enter cX8_enter 3 (some .int) 6 1 6 [hb_r 0, hb_r (77 + na)] (hb_w (hb_u1 G (77 + na) (hb_er 3 t p k 0 0 0 0)) F (na + 1)) (77 + (na + 1)) (.inr "java/lang/IllegalStateException") (hb_w G1 F1 (na + 1)) (77 + (na + 1))) (hG : hb_rg G) : hb_M l yX8_done cX8_done 5 (some .int) 7 2 15 [hb_r 0, hb_i t, hb_i k, hb_i p] (hb_w G F na) (77 + na) (.inr "java/lang/IllegalStateException") (hb_w G1 F1 (na + 1)) (77 + (na + 1)) := by
  refine hb_M_in rfl rfl (by decide) rfl (Nat.le_of_ble_eq_true rfl) ?_
  intro E z0 σ0
  refine aw_ald0 dX8_done_0 ?_
  refine aw_getf dX8_done_1 hbf_X8_21 rfl rfl ?_
  refine aw_ild1 dX8_done_4 ?_
  refine aw_V1v dX8_done_5 (c_thingsHas (by first | assumption | omega | (constructor <;> omega) | exact hG _ _) hG) rfl rfl hbY_X6_has hbm_X8_75 hbi_X6_has hbe_X6_X6_has (Nat.le_of_ble_eq_true rfl) ⟨by decide, by decide⟩ (by decide) (by decide) ?_
  refine aw_ifb_eq (tg := 33) dX8_done_8 (by decide) (fun c8 => absurd c8 (by exact fun h8 => h8 hP.1)) (fun c8 => ?_)
  refine aw_ald0 dX8_done_11 ?_
  refine aw_getf dX8_done_12 hbf_X8_28 rfl rfl ?_
  refine aw_ild2 dX8_done_15 ?_
  refine aw_V1v dX8_done_16 (c_tasksHas (by first | assumption | omega | (constructor <;> omega) | exact hG _ _) hG) rfl rfl hbY_X5_has hbm_X8_93 hbi_X5_has hbe_X5_X5_has (Nat.le_of_ble_eq_true rfl) ⟨by decide, by decide⟩ (by decide) (by decide) ?_
  refine aw_ifb_eq (tg := 33) dX8_done_19 (by decide) (fun c19 => absurd c19 (by exact fun h8 => h8 hP.2.1)) (fun c19 => ?_)
  refine aw_ild3 dX8_done_22 ?_
  refine aw_S1v dX8_done_23 (c_isPoint (by first | assumption | omega | (constructor <;> omega) | exact hG _ _)) hbY_X8_isPoint hbm_X8_112 hbs_X8_isPoint (Nat.le_of_ble_eq_true rfl) ⟨by decide, by decide⟩ (by decide) (by decide) ?_
  refine aw_ifb_eq (tg := 33) dX8_done_26 (by decide) (fun c26 => absurd c26 (by exact fun h8 => h8 hP.2.2)) (fun c26 => ?_)
  refine aw_iconst dX8_done_29 ?_
  refine aw_goto (tg := 34) dX8_done_30 (by decide) ?_
  refine aw_S1n dX8_done_34 c_refuseY hbY_X8_refuseUnless hbm_X8_116 hbs_X8_refuseUnless (Nat.le_of_ble_eq_true rfl) ⟨by decide, by decide⟩ (by decide) (by decide) ?_
  refine aw_newE dX8_done_37 hbc_X8_120 (by decide) (by decide) (hb_nwi (by intro p hp; simp at hp <;> omega)) (hb_nwi (by intro p hp; simp at hp <;> omega)) ?_
  refine aw_dup dX8_done_40 rfl ?_
  refine aw_iconst dX8_done_41 ?_
  refine aw_ild1 dX8_done_42 ?_
  refine aw_ild3 dX8_done_43 ?_
  refine aw_I3n dX8_done_44 (c_entryInit (Nat.lt_succ_self na)) hbY_X1_init hbm_X8_122 hbi_X1_init rfl (Nat.le_of_ble_eq_true rfl) ⟨by decide, by decide⟩ (by decide) (by decide) hb_nw.rf hb_nw.rf ?_
  refine aw_G (G2 := hb_u1 G (77 + na) (hb_er 3 t p 0 0 0 0 0)) (by rw [hb_u2_u1, hb_u2_u1, hb_u2_u1, hb_er0]) ?_
  refine aw_apu4 dX8_done_47 (by decide) ?_
  refine aw_ald4 dX8_done_49 ?_
  refine aw_ild2 dX8_done_51 ?_
  refine aw_putw dX8_done_52 hbf_X8_135 hbS_X1 (fun C T n h9 => by cases h9; exact ⟨rfl, by decide +kernel, fun h8 => by cases h8⟩) (hb_pe (Nat.lt_succ_self na)) (hb_ce _ _ _) (by rw [hb_ce]; rfl) ?_
  refine aw_G (G2 := hb_u1 G (77 + na) (hb_er 3 t p k 0 0 0 0)) (by rw [hb_u2_u1]; exact congrArg (hb_u1 G _) hb_er4) ?_
  refine aw_ald0 dX8_done_55 ?_
  refine aw_ald4 dX8_done_56 ?_
  exact aw_V1x dX8_done_58 hE rfl rfl hbY_X8_enter hbm_X8_131 hbi_X8_enter hbe_X8_X8_enter (Nat.le_of_ble_eq_true rfl) ⟨by decide, by decide⟩ (by decide) (by decide) rfl rfl rfl rfl
set_option maxRecDepth 20000 in
set_option maxHeartbeats 1000000 in
theorem c_concedeR {l : Launch} {G : hb_G} {F : hb_F} {na : Nat} (hl : l.stackTraces = false) {t k p a b : Int} (it : hb_in t) (ik : hb_in k) (ip : hb_in p) (ia : hb_in a) (ib : hb_in b) (hP : ¬ ((0 ≤ t ∧ t < 40 ∧ G 7 t ≠ -1) ∧ (0 ≤ k ∧ k < 16 ∧ G 13 k ≠ -1) ∧ (0 ≤ p ∧ p ≤ 3000099) ∧ (0 ≤ a ∧ a ≤ 10000) ∧ (0 ≤ b) ∧ (0 ≤ b / 10001 ∧ b / 10001 ≤ 10000))) (hG : hb_rg G) : hb_M l yX8_concede cX8_concede 7 (some .int) 7 1 6 [hb_r 0, hb_i t, hb_i k, hb_i p, hb_i a, hb_i b] (hb_w G F na) (77 + na) (.inr "java/lang/IllegalArgumentException") (hb_w G F na) (77 + na) := by
  refine hb_M_in rfl rfl (by decide) rfl (Nat.le_of_ble_eq_true rfl) ?_
  intro E z0 σ0
  refine aw_ald0 dX8_concede_0 ?_
  refine aw_getf dX8_concede_1 hbf_X8_21 rfl rfl ?_
  refine aw_ild1 dX8_concede_4 ?_
  refine aw_V1v dX8_concede_5 (c_thingsHas (by first | assumption | omega | (constructor <;> omega) | exact hG _ _) hG) rfl rfl hbY_X6_has hbm_X8_75 hbi_X6_has hbe_X6_X6_has (Nat.le_of_ble_eq_true rfl) ⟨by decide, by decide⟩ (by decide) (by decide) ?_
  refine aw_ifb_eq (tg := 64) dX8_concede_8 (by decide) (fun c8 => ?_) (fun c8 => ?_)
  · skip
    refine aw_iconst dX8_concede_64 ?_
    exact aw_S1x dX8_concede_65 (c_refuseN hl) hbY_X8_refuseUnless hbm_X8_116 hbs_X8_refuseUnless (Nat.le_of_ble_eq_true rfl) ⟨by decide, by decide⟩ (by decide) (by decide) rfl rfl rfl rfl
  · skip
    refine aw_ald0 dX8_concede_11 ?_
    refine aw_getf dX8_concede_12 hbf_X8_28 rfl rfl ?_
    refine aw_ild2 dX8_concede_15 ?_
    refine aw_V1v dX8_concede_16 (c_tasksHas (by first | assumption | omega | (constructor <;> omega) | exact hG _ _) hG) rfl rfl hbY_X5_has hbm_X8_93 hbi_X5_has hbe_X5_X5_has (Nat.le_of_ble_eq_true rfl) ⟨by decide, by decide⟩ (by decide) (by decide) ?_
    refine aw_ifb_eq (tg := 64) dX8_concede_19 (by decide) (fun c19 => ?_) (fun c19 => ?_)
    · skip
      refine aw_iconst dX8_concede_64 ?_
      exact aw_S1x dX8_concede_65 (c_refuseN hl) hbY_X8_refuseUnless hbm_X8_116 hbs_X8_refuseUnless (Nat.le_of_ble_eq_true rfl) ⟨by decide, by decide⟩ (by decide) (by decide) rfl rfl rfl rfl
    · skip
      refine aw_ild3 dX8_concede_22 ?_
      refine aw_S1v dX8_concede_23 (c_isPoint (by first | assumption | omega | (constructor <;> omega) | exact hG _ _)) hbY_X8_isPoint hbm_X8_112 hbs_X8_isPoint (Nat.le_of_ble_eq_true rfl) ⟨by decide, by decide⟩ (by decide) (by decide) ?_
      refine aw_ifb_eq (tg := 64) dX8_concede_26 (by decide) (fun c26 => ?_) (fun c26 => ?_)
      · skip
        refine aw_iconst dX8_concede_64 ?_
        exact aw_S1x dX8_concede_65 (c_refuseN hl) hbY_X8_refuseUnless hbm_X8_116 hbs_X8_refuseUnless (Nat.le_of_ble_eq_true rfl) ⟨by decide, by decide⟩ (by decide) (by decide) rfl rfl rfl rfl
      · skip
        refine aw_ild4 dX8_concede_29 ?_
        refine aw_sipush dX8_concede_31 (by decide) ?_
        refine aw_S2v dX8_concede_34 (c_isUpTo (by first | assumption | omega | (constructor <;> omega) | exact hG _ _) (by first | assumption | omega | (constructor <;> omega) | exact hG _ _)) hbY_X8_isUpTo hbm_X8_83 hbs_X8_isUpTo (Nat.le_of_ble_eq_true rfl) ⟨by decide, by decide⟩ (by decide) (by decide) ?_
        refine aw_ifb_eq (tg := 64) dX8_concede_37 (by decide) (fun c37 => ?_) (fun c37 => ?_)
        · skip
          refine aw_iconst dX8_concede_64 ?_
          exact aw_S1x dX8_concede_65 (c_refuseN hl) hbY_X8_refuseUnless hbm_X8_116 hbs_X8_refuseUnless (Nat.le_of_ble_eq_true rfl) ⟨by decide, by decide⟩ (by decide) (by decide) rfl rfl rfl rfl
        · skip
          refine aw_ild5 dX8_concede_40 ?_
          refine aw_if_lt (tg := 64) dX8_concede_42 (by decide) (by first | exact hG _ _ | assumption | (constructor <;> omega)) (fun c42 => ?_) (fun c42 => ?_)
          · skip
            refine aw_iconst dX8_concede_64 ?_
            exact aw_S1x dX8_concede_65 (c_refuseN hl) hbY_X8_refuseUnless hbm_X8_116 hbs_X8_refuseUnless (Nat.le_of_ble_eq_true rfl) ⟨by decide, by decide⟩ (by decide) (by decide) rfl rfl rfl rfl
          · skip
            refine aw_ild5 dX8_concede_45 ?_
            refine aw_sipush dX8_concede_47 (by decide) ?_
            refine aw_idiv dX8_concede_50 ib (by decide) (by omega) (by decide) ?_
            refine aw_sipush dX8_concede_51 (by decide) ?_
            refine aw_S2v dX8_concede_54 (c_isUpTo (by constructor <;> omega) (by decide)) hbY_X8_isUpTo hbm_X8_83 hbs_X8_isUpTo (Nat.le_of_ble_eq_true rfl) ⟨by decide, by decide⟩ (by decide) (by decide) ?_
            refine aw_ifb_eq (tg := 64) dX8_concede_57 (by decide) (fun c57 => ?_) (fun c57 => ?_)
            · skip
              refine aw_iconst dX8_concede_64 ?_
              exact aw_S1x dX8_concede_65 (c_refuseN hl) hbY_X8_refuseUnless hbm_X8_116 hbs_X8_refuseUnless (Nat.le_of_ble_eq_true rfl) ⟨by decide, by decide⟩ (by decide) (by decide) rfl rfl rfl rfl
            · skip
              exact absurd ⟨by assumption, by assumption, by assumption, by assumption, by omega, by assumption⟩ hP
set_option maxRecDepth 20000 in
set_option maxHeartbeats 1000000 in
theorem c_concedeY {l : Launch} {G : hb_G} {F : hb_F} {na : Nat} {t k p a b : Int} (it : hb_in t) (ik : hb_in k) (ip : hb_in p) (ia : hb_in a) (ib : hb_in b) (hP : (0 ≤ t ∧ t < 40 ∧ G 7 t ≠ -1) ∧ (0 ≤ k ∧ k < 16 ∧ G 13 k ≠ -1) ∧ (0 ≤ p ∧ p ≤ 3000099) ∧ (0 ≤ a ∧ a ≤ 10000) ∧ (0 ≤ b) ∧ (0 ≤ b / 10001 ∧ b / 10001 ≤ 10000)) {G1 : hb_G} {F1 : hb_F} {v : Int} (hE : hb_M l yX8_enter cX8_enter 3 (some .int) 5 0 0 [hb_r 0, hb_r (77 + na)] (hb_w (hb_u1 G (77 + na) (hb_er 4 t p k 0 a (b / 10001) (b % 10001))) F (na + 1)) (77 + (na + 1)) (.inl (some (hb_i (v)))) (hb_w G1 F1 (na + 1)) (77 + (na + 1))) (hG : hb_rg G) : hb_M l yX8_concede cX8_concede 7 (some .int) 7 1 9 [hb_r 0, hb_i t, hb_i k, hb_i p, hb_i a, hb_i b] (hb_w G F na) (77 + na) (.inl (some (hb_i (v)))) (hb_w G1 F1 (na + 1)) (77 + (na + 1)) := by
  refine hb_M_in rfl rfl (by decide) rfl (Nat.le_of_ble_eq_true rfl) ?_
  intro E z0 σ0
  refine aw_ald0 dX8_concede_0 ?_
  refine aw_getf dX8_concede_1 hbf_X8_21 rfl rfl ?_
  refine aw_ild1 dX8_concede_4 ?_
  refine aw_V1v dX8_concede_5 (c_thingsHas (by first | assumption | omega | (constructor <;> omega) | exact hG _ _) hG) rfl rfl hbY_X6_has hbm_X8_75 hbi_X6_has hbe_X6_X6_has (Nat.le_of_ble_eq_true rfl) ⟨by decide, by decide⟩ (by decide) (by decide) ?_
  refine aw_ifb_eq (tg := 64) dX8_concede_8 (by decide) (fun c8 => absurd c8 (by exact fun h8 => h8 hP.1)) (fun c8 => ?_)
  refine aw_ald0 dX8_concede_11 ?_
  refine aw_getf dX8_concede_12 hbf_X8_28 rfl rfl ?_
  refine aw_ild2 dX8_concede_15 ?_
  refine aw_V1v dX8_concede_16 (c_tasksHas (by first | assumption | omega | (constructor <;> omega) | exact hG _ _) hG) rfl rfl hbY_X5_has hbm_X8_93 hbi_X5_has hbe_X5_X5_has (Nat.le_of_ble_eq_true rfl) ⟨by decide, by decide⟩ (by decide) (by decide) ?_
  refine aw_ifb_eq (tg := 64) dX8_concede_19 (by decide) (fun c19 => absurd c19 (by exact fun h8 => h8 hP.2.1)) (fun c19 => ?_)
  refine aw_ild3 dX8_concede_22 ?_
  refine aw_S1v dX8_concede_23 (c_isPoint (by first | assumption | omega | (constructor <;> omega) | exact hG _ _)) hbY_X8_isPoint hbm_X8_112 hbs_X8_isPoint (Nat.le_of_ble_eq_true rfl) ⟨by decide, by decide⟩ (by decide) (by decide) ?_
  refine aw_ifb_eq (tg := 64) dX8_concede_26 (by decide) (fun c26 => absurd c26 (by exact fun h8 => h8 hP.2.2.1)) (fun c26 => ?_)
  refine aw_ild4 dX8_concede_29 ?_
  refine aw_sipush dX8_concede_31 (by decide) ?_
  refine aw_S2v dX8_concede_34 (c_isUpTo (by first | assumption | omega | (constructor <;> omega) | exact hG _ _) (by first | assumption | omega | (constructor <;> omega) | exact hG _ _)) hbY_X8_isUpTo hbm_X8_83 hbs_X8_isUpTo (Nat.le_of_ble_eq_true rfl) ⟨by decide, by decide⟩ (by decide) (by decide) ?_
  refine aw_ifb_eq (tg := 64) dX8_concede_37 (by decide) (fun c37 => absurd c37 (by exact fun h8 => h8 hP.2.2.2.1)) (fun c37 => ?_)
  refine aw_ild5 dX8_concede_40 ?_
  refine aw_if_lt (tg := 64) dX8_concede_42 (by decide) (by first | exact hG _ _ | assumption | (constructor <;> omega)) (fun c42 => absurd c42 (by have := hP.2.2.2.2.1; omega)) (fun c42 => ?_)
  refine aw_ild5 dX8_concede_45 ?_
  refine aw_sipush dX8_concede_47 (by decide) ?_
  refine aw_idiv dX8_concede_50 ib (by decide) (by omega) (by decide) ?_
  refine aw_sipush dX8_concede_51 (by decide) ?_
  refine aw_S2v dX8_concede_54 (c_isUpTo (by constructor <;> omega) (by decide)) hbY_X8_isUpTo hbm_X8_83 hbs_X8_isUpTo (Nat.le_of_ble_eq_true rfl) ⟨by decide, by decide⟩ (by decide) (by decide) ?_
  refine aw_ifb_eq (tg := 64) dX8_concede_57 (by decide) (fun c57 => absurd c57 (by exact fun h8 => h8 hP.2.2.2.2.2)) (fun c57 => ?_)
  refine aw_iconst dX8_concede_60 ?_
  refine aw_goto (tg := 65) dX8_concede_61 (by decide) ?_
  refine aw_S1n dX8_concede_65 c_refuseY hbY_X8_refuseUnless hbm_X8_116 hbs_X8_refuseUnless (Nat.le_of_ble_eq_true rfl) ⟨by decide, by decide⟩ (by decide) (by decide) ?_
  refine aw_newE dX8_concede_68 hbc_X8_120 (by decide) (by decide) (hb_nwi (by intro p hp; simp at hp <;> omega)) (hb_nwi (by intro p hp; simp at hp <;> omega)) ?_
  refine aw_dup dX8_concede_71 rfl ?_
  refine aw_iconst dX8_concede_72 ?_
  refine aw_ild1 dX8_concede_73 ?_
  refine aw_ild3 dX8_concede_74 ?_
  refine aw_I3n dX8_concede_75 (c_entryInit (Nat.lt_succ_self na)) hbY_X1_init hbm_X8_122 hbi_X1_init rfl (Nat.le_of_ble_eq_true rfl) ⟨by decide, by decide⟩ (by decide) (by decide) hb_nw.rf hb_nw.rf ?_
  refine aw_G (G2 := hb_u1 G (77 + na) (hb_er 4 t p 0 0 0 0 0)) (by rw [hb_u2_u1, hb_u2_u1, hb_u2_u1, hb_er0]) ?_
  refine aw_apu6 dX8_concede_78 (by decide) ?_
  refine aw_ald6 dX8_concede_80 ?_
  refine aw_ild2 dX8_concede_82 ?_
  refine aw_putw dX8_concede_83 hbf_X8_135 hbS_X1 (fun C T n h9 => by cases h9; exact ⟨rfl, by decide +kernel, fun h8 => by cases h8⟩) (hb_pe (Nat.lt_succ_self na)) (hb_ce _ _ _) (by rw [hb_ce]; rfl) ?_
  refine aw_G (G2 := hb_u1 G (77 + na) (hb_er 4 t p k 0 0 0 0)) (by rw [hb_u2_u1]; exact congrArg (hb_u1 G _) hb_er4) ?_
  refine aw_ald6 dX8_concede_86 ?_
  refine aw_ild4 dX8_concede_88 ?_
  refine aw_putw dX8_concede_90 hbf_X8_125 hbS_X1 (fun C T n h9 => by cases h9; exact ⟨rfl, by decide +kernel, fun h8 => by cases h8⟩) (hb_pe (Nat.lt_succ_self na)) (hb_ce _ _ _) (by rw [hb_ce]; rfl) ?_
  refine aw_G (G2 := hb_u1 G (77 + na) (hb_er 4 t p k 0 a 0 0)) (by rw [hb_u2_u1]; exact congrArg (hb_u1 G _) hb_er6) ?_
  refine aw_ald6 dX8_concede_93 ?_
  refine aw_ild5 dX8_concede_95 ?_
  refine aw_sipush dX8_concede_97 (by decide) ?_
  refine aw_idiv dX8_concede_100 ib (by decide) hP.2.2.2.2.1 (by decide) ?_
  refine aw_putw dX8_concede_101 hbf_X8_128 hbS_X1 (fun C T n h9 => by cases h9; exact ⟨rfl, by decide +kernel, fun h8 => by cases h8⟩) (hb_pe (Nat.lt_succ_self na)) (hb_ce _ _ _) (by rw [hb_ce]; rfl) ?_
  refine aw_G (G2 := hb_u1 G (77 + na) (hb_er 4 t p k 0 a (b / 10001) 0)) (by rw [hb_u2_u1]; exact congrArg (hb_u1 G _) hb_er7) ?_
  refine aw_ald6 dX8_concede_104 ?_
  refine aw_ild5 dX8_concede_106 ?_
  refine aw_sipush dX8_concede_108 (by decide) ?_
  refine aw_irem dX8_concede_111 ib (by decide) hP.2.2.2.2.1 (by decide) ?_
  refine aw_putw dX8_concede_112 hbf_X8_141 hbS_X1 (fun C T n h9 => by cases h9; exact ⟨rfl, by decide +kernel, fun h8 => by cases h8⟩) (hb_pe (Nat.lt_succ_self na)) (hb_ce _ _ _) (by rw [hb_ce]; rfl) ?_
  refine aw_G (G2 := hb_u1 G (77 + na) (hb_er 4 t p k 0 a (b / 10001) (b % 10001))) (by rw [hb_u2_u1]; exact congrArg (hb_u1 G _) hb_er8) ?_
  refine aw_ald0 dX8_concede_115 ?_
  refine aw_ald6 dX8_concede_116 ?_
  refine aw_V1v dX8_concede_118 hE rfl rfl hbY_X8_enter hbm_X8_131 hbi_X8_enter hbe_X8_X8_enter (Nat.le_of_ble_eq_true rfl) ⟨by decide, by decide⟩ (by decide) (by decide) ?_
  exact aw_iret dX8_concede_121 rfl (by rfl) rfl rfl (by decide) (by decide)
set_option maxRecDepth 20000 in
set_option maxHeartbeats 1000000 in
theorem c_concedeX {l : Launch} {G : hb_G} {F : hb_F} {na : Nat} {t k p a b : Int} (it : hb_in t) (ik : hb_in k) (ip : hb_in p) (ia : hb_in a) (ib : hb_in b) (hP : (0 ≤ t ∧ t < 40 ∧ G 7 t ≠ -1) ∧ (0 ≤ k ∧ k < 16 ∧ G 13 k ≠ -1) ∧ (0 ≤ p ∧ p ≤ 3000099) ∧ (0 ≤ a ∧ a ≤ 10000) ∧ (0 ≤ b) ∧ (0 ≤ b / 10001 ∧ b / 10001 ≤ 10000)) {G1 : hb_G} {F1 : hb_F} (hE : hb_M l yX8_enter cX8_enter 3 (some .int) 6 1 6 [hb_r 0, hb_r (77 + na)] (hb_w (hb_u1 G (77 + na) (hb_er 4 t p k 0 a (b / 10001) (b % 10001))) F (na + 1)) (77 + (na + 1)) (.inr "java/lang/IllegalStateException") (hb_w G1 F1 (na + 1)) (77 + (na + 1))) (hG : hb_rg G) : hb_M l yX8_concede cX8_concede 7 (some .int) 7 2 15 [hb_r 0, hb_i t, hb_i k, hb_i p, hb_i a, hb_i b] (hb_w G F na) (77 + na) (.inr "java/lang/IllegalStateException") (hb_w G1 F1 (na + 1)) (77 + (na + 1)) := by
  refine hb_M_in rfl rfl (by decide) rfl (Nat.le_of_ble_eq_true rfl) ?_
  intro E z0 σ0
  refine aw_ald0 dX8_concede_0 ?_
  refine aw_getf dX8_concede_1 hbf_X8_21 rfl rfl ?_
  refine aw_ild1 dX8_concede_4 ?_
  refine aw_V1v dX8_concede_5 (c_thingsHas (by first | assumption | omega | (constructor <;> omega) | exact hG _ _) hG) rfl rfl hbY_X6_has hbm_X8_75 hbi_X6_has hbe_X6_X6_has (Nat.le_of_ble_eq_true rfl) ⟨by decide, by decide⟩ (by decide) (by decide) ?_
  refine aw_ifb_eq (tg := 64) dX8_concede_8 (by decide) (fun c8 => absurd c8 (by exact fun h8 => h8 hP.1)) (fun c8 => ?_)
  refine aw_ald0 dX8_concede_11 ?_
  refine aw_getf dX8_concede_12 hbf_X8_28 rfl rfl ?_
  refine aw_ild2 dX8_concede_15 ?_
  refine aw_V1v dX8_concede_16 (c_tasksHas (by first | assumption | omega | (constructor <;> omega) | exact hG _ _) hG) rfl rfl hbY_X5_has hbm_X8_93 hbi_X5_has hbe_X5_X5_has (Nat.le_of_ble_eq_true rfl) ⟨by decide, by decide⟩ (by decide) (by decide) ?_
  refine aw_ifb_eq (tg := 64) dX8_concede_19 (by decide) (fun c19 => absurd c19 (by exact fun h8 => h8 hP.2.1)) (fun c19 => ?_)
  refine aw_ild3 dX8_concede_22 ?_
  refine aw_S1v dX8_concede_23 (c_isPoint (by first | assumption | omega | (constructor <;> omega) | exact hG _ _)) hbY_X8_isPoint hbm_X8_112 hbs_X8_isPoint (Nat.le_of_ble_eq_true rfl) ⟨by decide, by decide⟩ (by decide) (by decide) ?_
  refine aw_ifb_eq (tg := 64) dX8_concede_26 (by decide) (fun c26 => absurd c26 (by exact fun h8 => h8 hP.2.2.1)) (fun c26 => ?_)
  refine aw_ild4 dX8_concede_29 ?_
  refine aw_sipush dX8_concede_31 (by decide) ?_
  refine aw_S2v dX8_concede_34 (c_isUpTo (by first | assumption | omega | (constructor <;> omega) | exact hG _ _) (by first | assumption | omega | (constructor <;> omega) | exact hG _ _)) hbY_X8_isUpTo hbm_X8_83 hbs_X8_isUpTo (Nat.le_of_ble_eq_true rfl) ⟨by decide, by decide⟩ (by decide) (by decide) ?_
  refine aw_ifb_eq (tg := 64) dX8_concede_37 (by decide) (fun c37 => absurd c37 (by exact fun h8 => h8 hP.2.2.2.1)) (fun c37 => ?_)
  refine aw_ild5 dX8_concede_40 ?_
  refine aw_if_lt (tg := 64) dX8_concede_42 (by decide) (by first | exact hG _ _ | assumption | (constructor <;> omega)) (fun c42 => absurd c42 (by have := hP.2.2.2.2.1; omega)) (fun c42 => ?_)
  refine aw_ild5 dX8_concede_45 ?_
  refine aw_sipush dX8_concede_47 (by decide) ?_
  refine aw_idiv dX8_concede_50 ib (by decide) (by omega) (by decide) ?_
  refine aw_sipush dX8_concede_51 (by decide) ?_
  refine aw_S2v dX8_concede_54 (c_isUpTo (by constructor <;> omega) (by decide)) hbY_X8_isUpTo hbm_X8_83 hbs_X8_isUpTo (Nat.le_of_ble_eq_true rfl) ⟨by decide, by decide⟩ (by decide) (by decide) ?_
  refine aw_ifb_eq (tg := 64) dX8_concede_57 (by decide) (fun c57 => absurd c57 (by exact fun h8 => h8 hP.2.2.2.2.2)) (fun c57 => ?_)
  refine aw_iconst dX8_concede_60 ?_
  refine aw_goto (tg := 65) dX8_concede_61 (by decide) ?_
  refine aw_S1n dX8_concede_65 c_refuseY hbY_X8_refuseUnless hbm_X8_116 hbs_X8_refuseUnless (Nat.le_of_ble_eq_true rfl) ⟨by decide, by decide⟩ (by decide) (by decide) ?_
  refine aw_newE dX8_concede_68 hbc_X8_120 (by decide) (by decide) (hb_nwi (by intro p hp; simp at hp <;> omega)) (hb_nwi (by intro p hp; simp at hp <;> omega)) ?_
  refine aw_dup dX8_concede_71 rfl ?_
  refine aw_iconst dX8_concede_72 ?_
  refine aw_ild1 dX8_concede_73 ?_
  refine aw_ild3 dX8_concede_74 ?_
  refine aw_I3n dX8_concede_75 (c_entryInit (Nat.lt_succ_self na)) hbY_X1_init hbm_X8_122 hbi_X1_init rfl (Nat.le_of_ble_eq_true rfl) ⟨by decide, by decide⟩ (by decide) (by decide) hb_nw.rf hb_nw.rf ?_
  refine aw_G (G2 := hb_u1 G (77 + na) (hb_er 4 t p 0 0 0 0 0)) (by rw [hb_u2_u1, hb_u2_u1, hb_u2_u1, hb_er0]) ?_
  refine aw_apu6 dX8_concede_78 (by decide) ?_
  refine aw_ald6 dX8_concede_80 ?_
  refine aw_ild2 dX8_concede_82 ?_
  refine aw_putw dX8_concede_83 hbf_X8_135 hbS_X1 (fun C T n h9 => by cases h9; exact ⟨rfl, by decide +kernel, fun h8 => by cases h8⟩) (hb_pe (Nat.lt_succ_self na)) (hb_ce _ _ _) (by rw [hb_ce]; rfl) ?_
  refine aw_G (G2 := hb_u1 G (77 + na) (hb_er 4 t p k 0 0 0 0)) (by rw [hb_u2_u1]; exact congrArg (hb_u1 G _) hb_er4) ?_
  refine aw_ald6 dX8_concede_86 ?_
  refine aw_ild4 dX8_concede_88 ?_
  refine aw_putw dX8_concede_90 hbf_X8_125 hbS_X1 (fun C T n h9 => by cases h9; exact ⟨rfl, by decide +kernel, fun h8 => by cases h8⟩) (hb_pe (Nat.lt_succ_self na)) (hb_ce _ _ _) (by rw [hb_ce]; rfl) ?_
  refine aw_G (G2 := hb_u1 G (77 + na) (hb_er 4 t p k 0 a 0 0)) (by rw [hb_u2_u1]; exact congrArg (hb_u1 G _) hb_er6) ?_
  refine aw_ald6 dX8_concede_93 ?_
  refine aw_ild5 dX8_concede_95 ?_
  refine aw_sipush dX8_concede_97 (by decide) ?_
  refine aw_idiv dX8_concede_100 ib (by decide) hP.2.2.2.2.1 (by decide) ?_
  refine aw_putw dX8_concede_101 hbf_X8_128 hbS_X1 (fun C T n h9 => by cases h9; exact ⟨rfl, by decide +kernel, fun h8 => by cases h8⟩) (hb_pe (Nat.lt_succ_self na)) (hb_ce _ _ _) (by rw [hb_ce]; rfl) ?_
  refine aw_G (G2 := hb_u1 G (77 + na) (hb_er 4 t p k 0 a (b / 10001) 0)) (by rw [hb_u2_u1]; exact congrArg (hb_u1 G _) hb_er7) ?_
  refine aw_ald6 dX8_concede_104 ?_
  refine aw_ild5 dX8_concede_106 ?_
  refine aw_sipush dX8_concede_108 (by decide) ?_
  refine aw_irem dX8_concede_111 ib (by decide) hP.2.2.2.2.1 (by decide) ?_
  refine aw_putw dX8_concede_112 hbf_X8_141 hbS_X1 (fun C T n h9 => by cases h9; exact ⟨rfl, by decide +kernel, fun h8 => by cases h8⟩) (hb_pe (Nat.lt_succ_self na)) (hb_ce _ _ _) (by rw [hb_ce]; rfl) ?_
  refine aw_G (G2 := hb_u1 G (77 + na) (hb_er 4 t p k 0 a (b / 10001) (b % 10001))) (by rw [hb_u2_u1]; exact congrArg (hb_u1 G _) hb_er8) ?_
  refine aw_ald0 dX8_concede_115 ?_
  refine aw_ald6 dX8_concede_116 ?_
  exact aw_V1x dX8_concede_118 hE rfl rfl hbY_X8_enter hbm_X8_131 hbi_X8_enter hbe_X8_X8_enter (Nat.le_of_ble_eq_true rfl) ⟨by decide, by decide⟩ (by decide) (by decide) rfl rfl rfl rfl
set_option maxRecDepth 20000 in
set_option maxHeartbeats 1000000 in
theorem c_rebuildR {l : Launch} {G : hb_G} {F : hb_F} {na : Nat} (hl : l.stackTraces = false) {t o p : Int} (it : hb_in t) (io : hb_in o) (ip : hb_in p) (hP : ¬ ((0 ≤ t ∧ t < 40 ∧ G 7 t ≠ -1) ∧ (0 ≤ o ∧ o < 8 ∧ G 20 o ≠ -1) ∧ (0 ≤ p ∧ p ≤ 3000099))) (hG : hb_rg G) : hb_M l yX8_rebuild cX8_rebuild 5 (some .int) 7 1 6 [hb_r 0, hb_i t, hb_i o, hb_i p] (hb_w G F na) (77 + na) (.inr "java/lang/IllegalArgumentException") (hb_w G F na) (77 + na) := by
  refine hb_M_in rfl rfl (by decide) rfl (Nat.le_of_ble_eq_true rfl) ?_
  intro E z0 σ0
  refine aw_ald0 dX8_rebuild_0 ?_
  refine aw_getf dX8_rebuild_1 hbf_X8_21 rfl rfl ?_
  refine aw_ild1 dX8_rebuild_4 ?_
  refine aw_V1v dX8_rebuild_5 (c_thingsHas (by first | assumption | omega | (constructor <;> omega) | exact hG _ _) hG) rfl rfl hbY_X6_has hbm_X8_75 hbi_X6_has hbe_X6_X6_has (Nat.le_of_ble_eq_true rfl) ⟨by decide, by decide⟩ (by decide) (by decide) ?_
  refine aw_ifb_eq (tg := 33) dX8_rebuild_8 (by decide) (fun c8 => ?_) (fun c8 => ?_)
  · skip
    refine aw_iconst dX8_rebuild_33 ?_
    exact aw_S1x dX8_rebuild_34 (c_refuseN hl) hbY_X8_refuseUnless hbm_X8_116 hbs_X8_refuseUnless (Nat.le_of_ble_eq_true rfl) ⟨by decide, by decide⟩ (by decide) (by decide) rfl rfl rfl rfl
  · skip
    refine aw_ald0 dX8_rebuild_11 ?_
    refine aw_getf dX8_rebuild_12 hbf_X8_35 rfl rfl ?_
    refine aw_ild2 dX8_rebuild_15 ?_
    refine aw_V1v dX8_rebuild_16 (c_ordersHas (by first | assumption | omega | (constructor <;> omega) | exact hG _ _) hG) rfl rfl hbY_X3_has hbm_X8_144 hbi_X3_has hbe_X3_X3_has (Nat.le_of_ble_eq_true rfl) ⟨by decide, by decide⟩ (by decide) (by decide) ?_
    refine aw_ifb_eq (tg := 33) dX8_rebuild_19 (by decide) (fun c19 => ?_) (fun c19 => ?_)
    · skip
      refine aw_iconst dX8_rebuild_33 ?_
      exact aw_S1x dX8_rebuild_34 (c_refuseN hl) hbY_X8_refuseUnless hbm_X8_116 hbs_X8_refuseUnless (Nat.le_of_ble_eq_true rfl) ⟨by decide, by decide⟩ (by decide) (by decide) rfl rfl rfl rfl
    · skip
      refine aw_ild3 dX8_rebuild_22 ?_
      refine aw_S1v dX8_rebuild_23 (c_isPoint (by first | assumption | omega | (constructor <;> omega) | exact hG _ _)) hbY_X8_isPoint hbm_X8_112 hbs_X8_isPoint (Nat.le_of_ble_eq_true rfl) ⟨by decide, by decide⟩ (by decide) (by decide) ?_
      refine aw_ifb_eq (tg := 33) dX8_rebuild_26 (by decide) (fun c26 => ?_) (fun c26 => ?_)
      · skip
        refine aw_iconst dX8_rebuild_33 ?_
        exact aw_S1x dX8_rebuild_34 (c_refuseN hl) hbY_X8_refuseUnless hbm_X8_116 hbs_X8_refuseUnless (Nat.le_of_ble_eq_true rfl) ⟨by decide, by decide⟩ (by decide) (by decide) rfl rfl rfl rfl
      · skip
        exact absurd ⟨by assumption, by assumption, by assumption⟩ hP
set_option maxRecDepth 20000 in
set_option maxHeartbeats 1000000 in
theorem c_rebuildY {l : Launch} {G : hb_G} {F : hb_F} {na : Nat} {t o p : Int} (it : hb_in t) (io : hb_in o) (ip : hb_in p) (hP : (0 ≤ t ∧ t < 40 ∧ G 7 t ≠ -1) ∧ (0 ≤ o ∧ o < 8 ∧ G 20 o ≠ -1) ∧ (0 ≤ p ∧ p ≤ 3000099)) {G1 : hb_G} {F1 : hb_F} {v : Int} (hE : hb_M l yX8_enter cX8_enter 3 (some .int) 5 0 0 [hb_r 0, hb_r (77 + na)] (hb_w (hb_u1 G (77 + na) (hb_er 5 t p o 0 0 0 0)) F (na + 1)) (77 + (na + 1)) (.inl (some (hb_i (v)))) (hb_w G1 F1 (na + 1)) (77 + (na + 1))) (hG : hb_rg G) : hb_M l yX8_rebuild cX8_rebuild 5 (some .int) 7 1 9 [hb_r 0, hb_i t, hb_i o, hb_i p] (hb_w G F na) (77 + na) (.inl (some (hb_i (v)))) (hb_w G1 F1 (na + 1)) (77 + (na + 1)) := by
  refine hb_M_in rfl rfl (by decide) rfl (Nat.le_of_ble_eq_true rfl) ?_
  intro E z0 σ0
  refine aw_ald0 dX8_rebuild_0 ?_
  refine aw_getf dX8_rebuild_1 hbf_X8_21 rfl rfl ?_
  refine aw_ild1 dX8_rebuild_4 ?_
  refine aw_V1v dX8_rebuild_5 (c_thingsHas (by first | assumption | omega | (constructor <;> omega) | exact hG _ _) hG) rfl rfl hbY_X6_has hbm_X8_75 hbi_X6_has hbe_X6_X6_has (Nat.le_of_ble_eq_true rfl) ⟨by decide, by decide⟩ (by decide) (by decide) ?_
  refine aw_ifb_eq (tg := 33) dX8_rebuild_8 (by decide) (fun c8 => absurd c8 (by exact fun h8 => h8 hP.1)) (fun c8 => ?_)
  refine aw_ald0 dX8_rebuild_11 ?_
  refine aw_getf dX8_rebuild_12 hbf_X8_35 rfl rfl ?_
  refine aw_ild2 dX8_rebuild_15 ?_
  refine aw_V1v dX8_rebuild_16 (c_ordersHas (by first | assumption | omega | (constructor <;> omega) | exact hG _ _) hG) rfl rfl hbY_X3_has hbm_X8_144 hbi_X3_has hbe_X3_X3_has (Nat.le_of_ble_eq_true rfl) ⟨by decide, by decide⟩ (by decide) (by decide) ?_
  refine aw_ifb_eq (tg := 33) dX8_rebuild_19 (by decide) (fun c19 => absurd c19 (by exact fun h8 => h8 hP.2.1)) (fun c19 => ?_)
  refine aw_ild3 dX8_rebuild_22 ?_
  refine aw_S1v dX8_rebuild_23 (c_isPoint (by first | assumption | omega | (constructor <;> omega) | exact hG _ _)) hbY_X8_isPoint hbm_X8_112 hbs_X8_isPoint (Nat.le_of_ble_eq_true rfl) ⟨by decide, by decide⟩ (by decide) (by decide) ?_
  refine aw_ifb_eq (tg := 33) dX8_rebuild_26 (by decide) (fun c26 => absurd c26 (by exact fun h8 => h8 hP.2.2)) (fun c26 => ?_)
  refine aw_iconst dX8_rebuild_29 ?_
  refine aw_goto (tg := 34) dX8_rebuild_30 (by decide) ?_
  refine aw_S1n dX8_rebuild_34 c_refuseY hbY_X8_refuseUnless hbm_X8_116 hbs_X8_refuseUnless (Nat.le_of_ble_eq_true rfl) ⟨by decide, by decide⟩ (by decide) (by decide) ?_
  refine aw_newE dX8_rebuild_37 hbc_X8_120 (by decide) (by decide) (hb_nwi (by intro p hp; simp at hp <;> omega)) (hb_nwi (by intro p hp; simp at hp <;> omega)) ?_
  refine aw_dup dX8_rebuild_40 rfl ?_
  refine aw_iconst dX8_rebuild_41 ?_
  refine aw_ild1 dX8_rebuild_42 ?_
  refine aw_ild3 dX8_rebuild_43 ?_
  refine aw_I3n dX8_rebuild_44 (c_entryInit (Nat.lt_succ_self na)) hbY_X1_init hbm_X8_122 hbi_X1_init rfl (Nat.le_of_ble_eq_true rfl) ⟨by decide, by decide⟩ (by decide) (by decide) hb_nw.rf hb_nw.rf ?_
  refine aw_G (G2 := hb_u1 G (77 + na) (hb_er 5 t p 0 0 0 0 0)) (by rw [hb_u2_u1, hb_u2_u1, hb_u2_u1, hb_er0]) ?_
  refine aw_apu4 dX8_rebuild_47 (by decide) ?_
  refine aw_ald4 dX8_rebuild_49 ?_
  refine aw_ild2 dX8_rebuild_51 ?_
  refine aw_putw dX8_rebuild_52 hbf_X8_135 hbS_X1 (fun C T n h9 => by cases h9; exact ⟨rfl, by decide +kernel, fun h8 => by cases h8⟩) (hb_pe (Nat.lt_succ_self na)) (hb_ce _ _ _) (by rw [hb_ce]; rfl) ?_
  refine aw_G (G2 := hb_u1 G (77 + na) (hb_er 5 t p o 0 0 0 0)) (by rw [hb_u2_u1]; exact congrArg (hb_u1 G _) hb_er4) ?_
  refine aw_ald0 dX8_rebuild_55 ?_
  refine aw_ald4 dX8_rebuild_56 ?_
  refine aw_V1v dX8_rebuild_58 hE rfl rfl hbY_X8_enter hbm_X8_131 hbi_X8_enter hbe_X8_X8_enter (Nat.le_of_ble_eq_true rfl) ⟨by decide, by decide⟩ (by decide) (by decide) ?_
  exact aw_iret dX8_rebuild_61 rfl (by rfl) rfl rfl (by decide) (by decide)
set_option maxRecDepth 20000 in
set_option maxHeartbeats 1000000 in
theorem c_rebuildX {l : Launch} {G : hb_G} {F : hb_F} {na : Nat} {t o p : Int} (it : hb_in t) (io : hb_in o) (ip : hb_in p) (hP : (0 ≤ t ∧ t < 40 ∧ G 7 t ≠ -1) ∧ (0 ≤ o ∧ o < 8 ∧ G 20 o ≠ -1) ∧ (0 ≤ p ∧ p ≤ 3000099)) {G1 : hb_G} {F1 : hb_F} (hE : hb_M l yX8_enter cX8_enter 3 (some .int) 6 1 6 [hb_r 0, hb_r (77 + na)] (hb_w (hb_u1 G (77 + na) (hb_er 5 t p o 0 0 0 0)) F (na + 1)) (77 + (na + 1)) (.inr "java/lang/IllegalStateException") (hb_w G1 F1 (na + 1)) (77 + (na + 1))) (hG : hb_rg G) : hb_M l yX8_rebuild cX8_rebuild 5 (some .int) 7 2 15 [hb_r 0, hb_i t, hb_i o, hb_i p] (hb_w G F na) (77 + na) (.inr "java/lang/IllegalStateException") (hb_w G1 F1 (na + 1)) (77 + (na + 1)) := by
  refine hb_M_in rfl rfl (by decide) rfl (Nat.le_of_ble_eq_true rfl) ?_
  intro E z0 σ0
  refine aw_ald0 dX8_rebuild_0 ?_
  refine aw_getf dX8_rebuild_1 hbf_X8_21 rfl rfl ?_
  refine aw_ild1 dX8_rebuild_4 ?_
  refine aw_V1v dX8_rebuild_5 (c_thingsHas (by first | assumption | omega | (constructor <;> omega) | exact hG _ _) hG) rfl rfl hbY_X6_has hbm_X8_75 hbi_X6_has hbe_X6_X6_has (Nat.le_of_ble_eq_true rfl) ⟨by decide, by decide⟩ (by decide) (by decide) ?_
  refine aw_ifb_eq (tg := 33) dX8_rebuild_8 (by decide) (fun c8 => absurd c8 (by exact fun h8 => h8 hP.1)) (fun c8 => ?_)
  refine aw_ald0 dX8_rebuild_11 ?_
  refine aw_getf dX8_rebuild_12 hbf_X8_35 rfl rfl ?_
  refine aw_ild2 dX8_rebuild_15 ?_
  refine aw_V1v dX8_rebuild_16 (c_ordersHas (by first | assumption | omega | (constructor <;> omega) | exact hG _ _) hG) rfl rfl hbY_X3_has hbm_X8_144 hbi_X3_has hbe_X3_X3_has (Nat.le_of_ble_eq_true rfl) ⟨by decide, by decide⟩ (by decide) (by decide) ?_
  refine aw_ifb_eq (tg := 33) dX8_rebuild_19 (by decide) (fun c19 => absurd c19 (by exact fun h8 => h8 hP.2.1)) (fun c19 => ?_)
  refine aw_ild3 dX8_rebuild_22 ?_
  refine aw_S1v dX8_rebuild_23 (c_isPoint (by first | assumption | omega | (constructor <;> omega) | exact hG _ _)) hbY_X8_isPoint hbm_X8_112 hbs_X8_isPoint (Nat.le_of_ble_eq_true rfl) ⟨by decide, by decide⟩ (by decide) (by decide) ?_
  refine aw_ifb_eq (tg := 33) dX8_rebuild_26 (by decide) (fun c26 => absurd c26 (by exact fun h8 => h8 hP.2.2)) (fun c26 => ?_)
  refine aw_iconst dX8_rebuild_29 ?_
  refine aw_goto (tg := 34) dX8_rebuild_30 (by decide) ?_
  refine aw_S1n dX8_rebuild_34 c_refuseY hbY_X8_refuseUnless hbm_X8_116 hbs_X8_refuseUnless (Nat.le_of_ble_eq_true rfl) ⟨by decide, by decide⟩ (by decide) (by decide) ?_
  refine aw_newE dX8_rebuild_37 hbc_X8_120 (by decide) (by decide) (hb_nwi (by intro p hp; simp at hp <;> omega)) (hb_nwi (by intro p hp; simp at hp <;> omega)) ?_
  refine aw_dup dX8_rebuild_40 rfl ?_
  refine aw_iconst dX8_rebuild_41 ?_
  refine aw_ild1 dX8_rebuild_42 ?_
  refine aw_ild3 dX8_rebuild_43 ?_
  refine aw_I3n dX8_rebuild_44 (c_entryInit (Nat.lt_succ_self na)) hbY_X1_init hbm_X8_122 hbi_X1_init rfl (Nat.le_of_ble_eq_true rfl) ⟨by decide, by decide⟩ (by decide) (by decide) hb_nw.rf hb_nw.rf ?_
  refine aw_G (G2 := hb_u1 G (77 + na) (hb_er 5 t p 0 0 0 0 0)) (by rw [hb_u2_u1, hb_u2_u1, hb_u2_u1, hb_er0]) ?_
  refine aw_apu4 dX8_rebuild_47 (by decide) ?_
  refine aw_ald4 dX8_rebuild_49 ?_
  refine aw_ild2 dX8_rebuild_51 ?_
  refine aw_putw dX8_rebuild_52 hbf_X8_135 hbS_X1 (fun C T n h9 => by cases h9; exact ⟨rfl, by decide +kernel, fun h8 => by cases h8⟩) (hb_pe (Nat.lt_succ_self na)) (hb_ce _ _ _) (by rw [hb_ce]; rfl) ?_
  refine aw_G (G2 := hb_u1 G (77 + na) (hb_er 5 t p o 0 0 0 0)) (by rw [hb_u2_u1]; exact congrArg (hb_u1 G _) hb_er4) ?_
  refine aw_ald0 dX8_rebuild_55 ?_
  refine aw_ald4 dX8_rebuild_56 ?_
  exact aw_V1x dX8_rebuild_58 hE rfl rfl hbY_X8_enter hbm_X8_131 hbi_X8_enter hbe_X8_X8_enter (Nat.le_of_ble_eq_true rfl) ⟨by decide, by decide⟩ (by decide) (by decide) rfl rfl rfl rfl
set_option maxRecDepth 20000 in
set_option maxHeartbeats 1000000 in
theorem c_strikeR {l : Launch} {G : hb_G} {F : hb_F} {na : Nat} (hl : l.stackTraces = false) {v : Int} (iv : hb_in v) (hm : G 25 3 ≤ 200) (hP : ¬ ((0 ≤ v ∧ v < G 25 3) ∧ F 26 v ≠ none)) (hG : hb_rg G) : hb_M l yX8_strike cX8_strike 2 none 7 1 6 [hb_r 0, hb_i v] (hb_w G F na) (77 + na) (.inr "java/lang/IllegalArgumentException") (hb_w G F na) (77 + na) := by
  refine hb_M_in rfl rfl (by decide) rfl (Nat.le_of_ble_eq_true rfl) ?_
  intro E z0 σ0
  refine aw_ald0 dX8_strike_0 ?_
  refine aw_getf dX8_strike_1 hbf_X8_44 rfl rfl ?_
  refine aw_ild1 dX8_strike_4 ?_
  refine aw_V1v dX8_strike_5 (c_isLiving iv hm hG) rfl rfl hbY_X0_isLiving hbm_X8_145 hbi_X0_isLiving hbe_X0_X0_isLiving (Nat.le_of_ble_eq_true rfl) ⟨by decide, by decide⟩ (by decide) (by decide) ?_
  refine aw_top (c9 := 0) (hb_bf hP) ?_
  exact aw_S1x dX8_strike_8 (c_refuseN hl) hbY_X8_refuseUnless hbm_X8_116 hbs_X8_refuseUnless (Nat.le_of_ble_eq_true rfl) ⟨by decide, by decide⟩ (by decide) (by decide) rfl rfl rfl rfl
set_option maxRecDepth 20000 in
set_option maxHeartbeats 1000000 in
theorem c_strikeX {l : Launch} {G : hb_G} {F : hb_F} {na : Nat} (hl : l.stackTraces = false) {v : Int} (iv : hb_in v) (hm : G 25 3 ≤ 200) (hP : ((0 ≤ v ∧ v < G 25 3) ∧ F 26 v ≠ none)) {G1 : hb_G} {F1 : hb_F} (hE : hb_M l yX0_erase cX0_erase 3 (some .boolean) 4 0 0 [hb_r 25, hb_i v] (hb_w G F na) (77 + na) (.inl (some (hb_i (0)))) (hb_w G1 F1 na) (77 + na)) (hG : hb_rg G) : hb_M l yX8_strike cX8_strike 2 none 7 1 6 [hb_r 0, hb_i v] (hb_w G F na) (77 + na) (.inr "java/lang/IllegalStateException") (hb_w G1 F1 na) (77 + na) := by
  refine hb_M_in rfl rfl (by decide) rfl (Nat.le_of_ble_eq_true rfl) ?_
  intro E z0 σ0
  refine aw_ald0 dX8_strike_0 ?_
  refine aw_getf dX8_strike_1 hbf_X8_44 rfl rfl ?_
  refine aw_ild1 dX8_strike_4 ?_
  refine aw_V1v dX8_strike_5 (c_isLiving iv hm hG) rfl rfl hbY_X0_isLiving hbm_X8_145 hbi_X0_isLiving hbe_X0_X0_isLiving (Nat.le_of_ble_eq_true rfl) ⟨by decide, by decide⟩ (by decide) (by decide) ?_
  refine aw_top (c9 := 1) (hb_bt hP) ?_
  refine aw_S1n dX8_strike_8 c_refuseY hbY_X8_refuseUnless hbm_X8_116 hbs_X8_refuseUnless (Nat.le_of_ble_eq_true rfl) ⟨by decide, by decide⟩ (by decide) (by decide) ?_
  refine aw_ald0 dX8_strike_11 ?_
  refine aw_getf dX8_strike_12 hbf_X8_44 rfl rfl ?_
  refine aw_ild1 dX8_strike_15 ?_
  refine aw_V1v dX8_strike_16 hE rfl rfl hbY_X0_erase hbm_X8_148 hbi_X0_erase hbe_X0_X0_erase (Nat.le_of_ble_eq_true rfl) ⟨by decide, by decide⟩ (by decide) (by decide) ?_
  refine aw_if_ne (tg := 32) dX8_strike_19 (by decide) (by decide) (fun c19 => absurd c19 (by decide)) (fun c19 => ?_)
  exact aw_throw hl hbT_S (fun U h9 => h9.2.2.2.2.1) (fun U h9 => h9.2.2.2.2.1) dX8_strike_22 dX8_strike_25 dX8_strike_26 dX8_strike_28 dX8_strike_31 rfl rfl rfl rfl (by decide) (by decide) (by decide) (by decide)
set_option maxRecDepth 20000 in
set_option maxHeartbeats 1000000 in
theorem c_strikeY {l : Launch} {G : hb_G} {F : hb_F} {na : Nat} {v : Int} (iv : hb_in v) (hm : G 25 3 ≤ 200) (hP : ((0 ≤ v ∧ v < G 25 3) ∧ F 26 v ≠ none)) {G1 : hb_G} {F1 : hb_F} (hE : hb_M l yX0_erase cX0_erase 3 (some .boolean) 4 0 0 [hb_r 25, hb_i v] (hb_w G F na) (77 + na) (.inl (some (hb_i (1)))) (hb_w G1 F1 na) (77 + na)) (hG : hb_rg G) : hb_M l yX8_strike cX8_strike 2 none 7 0 0 [hb_r 0, hb_i v] (hb_w G F na) (77 + na) (.inl none) (hb_w (hb_u2 G1 32 9 (-1)) F1 na) (77 + na) := by
  refine hb_M_in rfl rfl (by decide) rfl (Nat.le_of_ble_eq_true rfl) ?_
  intro E z0 σ0
  refine aw_ald0 dX8_strike_0 ?_
  refine aw_getf dX8_strike_1 hbf_X8_44 rfl rfl ?_
  refine aw_ild1 dX8_strike_4 ?_
  refine aw_V1v dX8_strike_5 (c_isLiving iv hm hG) rfl rfl hbY_X0_isLiving hbm_X8_145 hbi_X0_isLiving hbe_X0_X0_isLiving (Nat.le_of_ble_eq_true rfl) ⟨by decide, by decide⟩ (by decide) (by decide) ?_
  refine aw_top (c9 := 1) (hb_bt hP) ?_
  refine aw_S1n dX8_strike_8 c_refuseY hbY_X8_refuseUnless hbm_X8_116 hbs_X8_refuseUnless (Nat.le_of_ble_eq_true rfl) ⟨by decide, by decide⟩ (by decide) (by decide) ?_
  refine aw_ald0 dX8_strike_11 ?_
  refine aw_getf dX8_strike_12 hbf_X8_44 rfl rfl ?_
  refine aw_ild1 dX8_strike_15 ?_
  refine aw_V1v dX8_strike_16 hE rfl rfl hbY_X0_erase hbm_X8_148 hbi_X0_erase hbe_X0_X0_erase (Nat.le_of_ble_eq_true rfl) ⟨by decide, by decide⟩ (by decide) (by decide) ?_
  refine aw_if_ne (tg := 32) dX8_strike_19 (by decide) (by decide) (fun c19 => ?_) (fun c19 => absurd c19 (by decide))
  refine aw_ald0 dX8_strike_32 ?_
  refine aw_getf dX8_strike_33 hbf_X8_56 rfl rfl ?_
  refine aw_V0n dX8_strike_36 (c_forget ) rfl rfl hbY_X4_forget hbm_X8_90 hbi_X4_forget hbe_X4_X4_forget (Nat.le_of_ble_eq_true rfl) ⟨by decide, by decide⟩ (by decide) (by decide) ?_
  exact aw_vret dX8_strike_39 rfl rfl rfl rfl (by decide) (by decide)

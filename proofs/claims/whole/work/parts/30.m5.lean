def hb_of (G : hb_G) (t k pt e : Int) : Prop := G 64 e ≠ 0 ∧ (G 63 e = 3 ∨ G 63 e = 4) ∧ G 65 e = t ∧ G 67 e = k ∧ G 66 e ≤ pt
def hb_af (p e q f : Int) : Prop := q < p ∨ (p = q ∧ f < e)
def hb_aj (G : hb_G) (e u : Int) : Int := if u = 0 then G 68 e else if u = 1 then G 69 e / 10001 else G 69 e % 10001
set_option maxRecDepth 20000 in
set_option maxHeartbeats 1000000 in
theorem c_mIsOf {l : Launch} {G : hb_G} {F : hb_F} {na : Nat} {e t k pt : Int} (he : 0 ≤ e ∧ e < 201) (it : hb_in t) (ik : hb_in k) (ipt : hb_in pt) (hG : hb_rg G) : hb_M l yX9_isOf cX9_isOf 5 (some .boolean) 0 0 0 [hb_r 47, hb_i e, hb_i t, hb_i k, hb_i pt] (hb_w G F na) (77 + na) (.inl (some (hb_i (hb_b (hb_of G t k pt e))))) (hb_w G F na) (77 + na) := by
  refine hb_M_in rfl rfl (by decide) rfl (Nat.le_of_ble_eq_true rfl) ?_
  intro E z0 σ0
  refine aw_ald0 dX9_isOf_0 ?_
  refine aw_getf dX9_isOf_1 hbf_X9_58 rfl rfl ?_
  refine aw_ild1 dX9_isOf_4 ?_
  refine aw_zald dX9_isOf_5 rfl (by constructor <;> omega) (by decide) ?_
  refine aw_if_eq (tg := 64) dX9_isOf_6 (by decide) (by first | exact hG _ _ | assumption | (constructor <;> omega)) (fun c6 => ?_) (fun c6 => ?_)
  · skip
    refine aw_iconst dX9_isOf_64 ?_
    exact aw_zret dX9_isOf_65 rfl (by first | omega | exact hb_b01 _) (by first | exact hb_oi1 (by unfold hb_of; omega) | exact hb_oi0 (by unfold hb_of; omega)) rfl rfl (by decide) (by decide)
  · skip
    refine aw_ald0 dX9_isOf_9 ?_
    refine aw_getf dX9_isOf_10 hbf_X9_55 rfl rfl ?_
    refine aw_ild1 dX9_isOf_13 ?_
    refine aw_iald dX9_isOf_14 rfl (by constructor <;> omega) (by decide) ?_
    refine aw_iconst dX9_isOf_15 ?_
    refine aw_icmp_eq (tg := 29) dX9_isOf_16 (by decide) (by first | exact hG _ _ | assumption | (constructor <;> omega)) (by first | exact hG _ _ | assumption | (constructor <;> omega)) (fun c16 => ?_) (fun c16 => ?_)
    · skip
      refine aw_ald0 dX9_isOf_29 ?_
      refine aw_getf dX9_isOf_30 hbf_X9_62 rfl rfl ?_
      refine aw_ild1 dX9_isOf_33 ?_
      refine aw_iald dX9_isOf_34 rfl (by constructor <;> omega) (by decide) ?_
      refine aw_ild2 dX9_isOf_35 ?_
      refine aw_icmp_ne (tg := 64) dX9_isOf_36 (by decide) (by first | exact hG _ _ | assumption | (constructor <;> omega)) (by first | exact hG _ _ | assumption | (constructor <;> omega)) (fun c36 => ?_) (fun c36 => ?_)
      · skip
        refine aw_iconst dX9_isOf_64 ?_
        exact aw_zret dX9_isOf_65 rfl (by first | omega | exact hb_b01 _) (by first | exact hb_oi1 (by unfold hb_of; omega) | exact hb_oi0 (by unfold hb_of; omega)) rfl rfl (by decide) (by decide)
      · skip
        refine aw_ald0 dX9_isOf_39 ?_
        refine aw_getf dX9_isOf_40 hbf_X9_68 rfl rfl ?_
        refine aw_ild1 dX9_isOf_43 ?_
        refine aw_iald dX9_isOf_44 rfl (by constructor <;> omega) (by decide) ?_
        refine aw_ild3 dX9_isOf_45 ?_
        refine aw_icmp_ne (tg := 64) dX9_isOf_46 (by decide) (by first | exact hG _ _ | assumption | (constructor <;> omega)) (by first | exact hG _ _ | assumption | (constructor <;> omega)) (fun c46 => ?_) (fun c46 => ?_)
        · skip
          refine aw_iconst dX9_isOf_64 ?_
          exact aw_zret dX9_isOf_65 rfl (by first | omega | exact hb_b01 _) (by first | exact hb_oi1 (by unfold hb_of; omega) | exact hb_oi0 (by unfold hb_of; omega)) rfl rfl (by decide) (by decide)
        · skip
          refine aw_ald0 dX9_isOf_49 ?_
          refine aw_getf dX9_isOf_50 hbf_X9_65 rfl rfl ?_
          refine aw_ild1 dX9_isOf_53 ?_
          refine aw_iald dX9_isOf_54 rfl (by constructor <;> omega) (by decide) ?_
          refine aw_ild4 dX9_isOf_55 ?_
          refine aw_icmp_gt (tg := 64) dX9_isOf_57 (by decide) (by first | exact hG _ _ | assumption | (constructor <;> omega)) (by first | exact hG _ _ | assumption | (constructor <;> omega)) (fun c57 => ?_) (fun c57 => ?_)
          · skip
            refine aw_iconst dX9_isOf_64 ?_
            exact aw_zret dX9_isOf_65 rfl (by first | omega | exact hb_b01 _) (by first | exact hb_oi1 (by unfold hb_of; omega) | exact hb_oi0 (by unfold hb_of; omega)) rfl rfl (by decide) (by decide)
          · skip
            refine aw_iconst dX9_isOf_60 ?_
            refine aw_goto (tg := 65) dX9_isOf_61 (by decide) ?_
            exact aw_zret dX9_isOf_65 rfl (by first | omega | exact hb_b01 _) (by first | exact hb_oi1 (by unfold hb_of; omega) | exact hb_oi0 (by unfold hb_of; omega)) rfl rfl (by decide) (by decide)
    · skip
      refine aw_ald0 dX9_isOf_19 ?_
      refine aw_getf dX9_isOf_20 hbf_X9_55 rfl rfl ?_
      refine aw_ild1 dX9_isOf_23 ?_
      refine aw_iald dX9_isOf_24 rfl (by constructor <;> omega) (by decide) ?_
      refine aw_iconst dX9_isOf_25 ?_
      refine aw_icmp_ne (tg := 64) dX9_isOf_26 (by decide) (by first | exact hG _ _ | assumption | (constructor <;> omega)) (by first | exact hG _ _ | assumption | (constructor <;> omega)) (fun c26 => ?_) (fun c26 => ?_)
      · skip
        refine aw_iconst dX9_isOf_64 ?_
        exact aw_zret dX9_isOf_65 rfl (by first | omega | exact hb_b01 _) (by first | exact hb_oi1 (by unfold hb_of; omega) | exact hb_oi0 (by unfold hb_of; omega)) rfl rfl (by decide) (by decide)
      · skip
        refine aw_ald0 dX9_isOf_29 ?_
        refine aw_getf dX9_isOf_30 hbf_X9_62 rfl rfl ?_
        refine aw_ild1 dX9_isOf_33 ?_
        refine aw_iald dX9_isOf_34 rfl (by constructor <;> omega) (by decide) ?_
        refine aw_ild2 dX9_isOf_35 ?_
        refine aw_icmp_ne (tg := 64) dX9_isOf_36 (by decide) (by first | exact hG _ _ | assumption | (constructor <;> omega)) (by first | exact hG _ _ | assumption | (constructor <;> omega)) (fun c36 => ?_) (fun c36 => ?_)
        · skip
          refine aw_iconst dX9_isOf_64 ?_
          exact aw_zret dX9_isOf_65 rfl (by first | omega | exact hb_b01 _) (by first | exact hb_oi1 (by unfold hb_of; omega) | exact hb_oi0 (by unfold hb_of; omega)) rfl rfl (by decide) (by decide)
        · skip
          refine aw_ald0 dX9_isOf_39 ?_
          refine aw_getf dX9_isOf_40 hbf_X9_68 rfl rfl ?_
          refine aw_ild1 dX9_isOf_43 ?_
          refine aw_iald dX9_isOf_44 rfl (by constructor <;> omega) (by decide) ?_
          refine aw_ild3 dX9_isOf_45 ?_
          refine aw_icmp_ne (tg := 64) dX9_isOf_46 (by decide) (by first | exact hG _ _ | assumption | (constructor <;> omega)) (by first | exact hG _ _ | assumption | (constructor <;> omega)) (fun c46 => ?_) (fun c46 => ?_)
          · skip
            refine aw_iconst dX9_isOf_64 ?_
            exact aw_zret dX9_isOf_65 rfl (by first | omega | exact hb_b01 _) (by first | exact hb_oi1 (by unfold hb_of; omega) | exact hb_oi0 (by unfold hb_of; omega)) rfl rfl (by decide) (by decide)
          · skip
            refine aw_ald0 dX9_isOf_49 ?_
            refine aw_getf dX9_isOf_50 hbf_X9_65 rfl rfl ?_
            refine aw_ild1 dX9_isOf_53 ?_
            refine aw_iald dX9_isOf_54 rfl (by constructor <;> omega) (by decide) ?_
            refine aw_ild4 dX9_isOf_55 ?_
            refine aw_icmp_gt (tg := 64) dX9_isOf_57 (by decide) (by first | exact hG _ _ | assumption | (constructor <;> omega)) (by first | exact hG _ _ | assumption | (constructor <;> omega)) (fun c57 => ?_) (fun c57 => ?_)
            · skip
              refine aw_iconst dX9_isOf_64 ?_
              exact aw_zret dX9_isOf_65 rfl (by first | omega | exact hb_b01 _) (by first | exact hb_oi1 (by unfold hb_of; omega) | exact hb_oi0 (by unfold hb_of; omega)) rfl rfl (by decide) (by decide)
            · skip
              refine aw_iconst dX9_isOf_60 ?_
              refine aw_goto (tg := 65) dX9_isOf_61 (by decide) ?_
              exact aw_zret dX9_isOf_65 rfl (by first | omega | exact hb_b01 _) (by first | exact hb_oi1 (by unfold hb_of; omega) | exact hb_oi0 (by unfold hb_of; omega)) rfl rfl (by decide) (by decide)
set_option maxRecDepth 20000 in
set_option maxHeartbeats 1000000 in
theorem c_mIsAfter {l : Launch} {G : hb_G} {F : hb_F} {na : Nat} {p e q g : Int} (ip : hb_in p) (ie : hb_in e) (iq : hb_in q) (ig : hb_in g) : hb_M l yX9_isAfter cX9_isAfter 4 (some .boolean) 0 0 0 [hb_i p, hb_i e, hb_i q, hb_i g] (hb_w G F na) (77 + na) (.inl (some (hb_i (hb_b (hb_af p e q g))))) (hb_w G F na) (77 + na) := by
  refine hb_M_in rfl rfl (by decide) rfl (Nat.le_of_ble_eq_true rfl) ?_
  intro E z0 σ0
  refine aw_ild0 dX9_isAfter_0 ?_
  refine aw_ild2 dX9_isAfter_1 ?_
  refine aw_icmp_gt (tg := 15) dX9_isAfter_2 (by decide) (by first | exact hG _ _ | assumption | (constructor <;> omega)) (by first | exact hG _ _ | assumption | (constructor <;> omega)) (fun c2 => ?_) (fun c2 => ?_)
  · skip
    refine aw_iconst dX9_isAfter_15 ?_
    refine aw_goto (tg := 20) dX9_isAfter_16 (by decide) ?_
    exact aw_zret dX9_isAfter_20 rfl (by first | omega | exact hb_b01 _) (by first | exact hb_oi1 (by unfold hb_af; omega) | exact hb_oi0 (by unfold hb_af; omega)) rfl rfl (by decide) (by decide)
  · skip
    refine aw_ild0 dX9_isAfter_5 ?_
    refine aw_ild2 dX9_isAfter_6 ?_
    refine aw_icmp_ne (tg := 19) dX9_isAfter_7 (by decide) (by first | exact hG _ _ | assumption | (constructor <;> omega)) (by first | exact hG _ _ | assumption | (constructor <;> omega)) (fun c7 => ?_) (fun c7 => ?_)
    · skip
      refine aw_iconst dX9_isAfter_19 ?_
      exact aw_zret dX9_isAfter_20 rfl (by first | omega | exact hb_b01 _) (by first | exact hb_oi1 (by unfold hb_af; omega) | exact hb_oi0 (by unfold hb_af; omega)) rfl rfl (by decide) (by decide)
    · skip
      refine aw_ild1 dX9_isAfter_10 ?_
      refine aw_ild3 dX9_isAfter_11 ?_
      refine aw_icmp_le (tg := 19) dX9_isAfter_12 (by decide) (by first | exact hG _ _ | assumption | (constructor <;> omega)) (by first | exact hG _ _ | assumption | (constructor <;> omega)) (fun c12 => ?_) (fun c12 => ?_)
      · skip
        refine aw_iconst dX9_isAfter_19 ?_
        exact aw_zret dX9_isAfter_20 rfl (by first | omega | exact hb_b01 _) (by first | exact hb_oi1 (by unfold hb_af; omega) | exact hb_oi0 (by unfold hb_af; omega)) rfl rfl (by decide) (by decide)
      · skip
        refine aw_iconst dX9_isAfter_15 ?_
        refine aw_goto (tg := 20) dX9_isAfter_16 (by decide) ?_
        exact aw_zret dX9_isAfter_20 rfl (by first | omega | exact hb_b01 _) (by first | exact hb_oi1 (by unfold hb_af; omega) | exact hb_oi0 (by unfold hb_af; omega)) rfl rfl (by decide) (by decide)
set_option maxRecDepth 20000 in
set_option maxHeartbeats 1000000 in
theorem c_mAmount0 {l : Launch} {G : hb_G} {F : hb_F} {na : Nat} {e : Int} (he : 0 ≤ e ∧ e < 201) (h69 : 0 ≤ G 69 e) (hG : hb_rg G) : hb_M l yX9_amount cX9_amount 3 (some .int) 0 0 0 [hb_r 47, hb_i e, hb_i 0] (hb_w G F na) (77 + na) (.inl (some (hb_i (hb_aj G e 0)))) (hb_w G F na) (77 + na) := by
  refine hb_M_in rfl rfl (by decide) rfl (Nat.le_of_ble_eq_true rfl) ?_
  intro E z0 σ0
  refine aw_ild2 dX9_amount_0 ?_
  refine aw_if_ne (tg := 13) dX9_amount_1 (by decide) (by decide) (fun c1 => absurd c1 (by decide)) (fun c1 => ?_)
  refine aw_ald0 dX9_amount_4 ?_
  refine aw_getf dX9_amount_5 hbf_X9_71 rfl rfl ?_
  refine aw_ild1 dX9_amount_8 ?_
  refine aw_iald dX9_amount_9 rfl (by constructor <;> omega) (by decide) ?_
  refine aw_goto (tg := 41) dX9_amount_10 (by decide) ?_
  exact aw_iret dX9_amount_41 rfl (by rfl) rfl rfl (by decide) (by decide)
set_option maxRecDepth 20000 in
set_option maxHeartbeats 1000000 in
theorem c_mAmount1 {l : Launch} {G : hb_G} {F : hb_F} {na : Nat} {e : Int} (he : 0 ≤ e ∧ e < 201) (h69 : 0 ≤ G 69 e) (hG : hb_rg G) : hb_M l yX9_amount cX9_amount 3 (some .int) 0 0 0 [hb_r 47, hb_i e, hb_i 1] (hb_w G F na) (77 + na) (.inl (some (hb_i (hb_aj G e 1)))) (hb_w G F na) (77 + na) := by
  refine hb_M_in rfl rfl (by decide) rfl (Nat.le_of_ble_eq_true rfl) ?_
  intro E z0 σ0
  refine aw_ild2 dX9_amount_0 ?_
  refine aw_if_ne (tg := 13) dX9_amount_1 (by decide) (by decide) (fun c1 => ?_) (fun c1 => absurd c1 (by decide))
  refine aw_ild2 dX9_amount_13 ?_
  refine aw_iconst dX9_amount_14 ?_
  refine aw_icmp_ne (tg := 31) dX9_amount_15 (by decide) (by decide) (by decide) (fun c15 => absurd c15 (by decide)) (fun c15 => ?_)
  refine aw_ald0 dX9_amount_18 ?_
  refine aw_getf dX9_amount_19 hbf_X9_74 rfl rfl ?_
  refine aw_ild1 dX9_amount_22 ?_
  refine aw_iald dX9_amount_23 rfl (by constructor <;> omega) (by decide) ?_
  refine aw_sipush dX9_amount_24 (by decide) ?_
  refine aw_idiv dX9_amount_27 (hG _ _) (by decide) h69 (by decide) ?_
  refine aw_goto (tg := 41) dX9_amount_28 (by decide) ?_
  exact aw_iret dX9_amount_41 rfl (by rfl) rfl rfl (by decide) (by decide)
set_option maxRecDepth 20000 in
set_option maxHeartbeats 1000000 in
theorem c_mAmount2 {l : Launch} {G : hb_G} {F : hb_F} {na : Nat} {e : Int} (he : 0 ≤ e ∧ e < 201) (h69 : 0 ≤ G 69 e) (hG : hb_rg G) : hb_M l yX9_amount cX9_amount 3 (some .int) 0 0 0 [hb_r 47, hb_i e, hb_i 2] (hb_w G F na) (77 + na) (.inl (some (hb_i (hb_aj G e 2)))) (hb_w G F na) (77 + na) := by
  refine hb_M_in rfl rfl (by decide) rfl (Nat.le_of_ble_eq_true rfl) ?_
  intro E z0 σ0
  refine aw_ild2 dX9_amount_0 ?_
  refine aw_if_ne (tg := 13) dX9_amount_1 (by decide) (by decide) (fun c1 => ?_) (fun c1 => absurd c1 (by decide))
  refine aw_ild2 dX9_amount_13 ?_
  refine aw_iconst dX9_amount_14 ?_
  refine aw_icmp_ne (tg := 31) dX9_amount_15 (by decide) (by decide) (by decide) (fun c15 => ?_) (fun c15 => absurd c15 (by decide))
  refine aw_ald0 dX9_amount_31 ?_
  refine aw_getf dX9_amount_32 hbf_X9_74 rfl rfl ?_
  refine aw_ild1 dX9_amount_35 ?_
  refine aw_iald dX9_amount_36 rfl (by constructor <;> omega) (by decide) ?_
  refine aw_sipush dX9_amount_37 (by decide) ?_
  refine aw_irem dX9_amount_40 (hG _ _) (by decide) h69 (by decide) ?_
  exact aw_iret dX9_amount_41 rfl (by rfl) rfl rfl (by decide) (by decide)
/-- the next doing or concession behind (lp, le) among the first n -/
noncomputable def hb_nx (G : hb_G) (t k pt lp le : Int) (n : Nat) : Int := match n with
  | 0 => -1
  | e + 1 => @ite Int ((hb_of G t k pt e ∧ hb_af (G 66 e) e lp le) ∧ (hb_nx G t k pt lp le e = -1 ∨ hb_af (G 66 (hb_nx G t k pt lp le e)) (hb_nx G t k pt lp le e) (G 66 e) e)) (Classical.propDecidable _) e (hb_nx G t k pt lp le e)
theorem hb_nx_y {G : hb_G} {t k pt lp le : Int} {e : Nat} (h : (hb_of G t k pt e ∧ hb_af (G 66 e) e lp le) ∧ (hb_nx G t k pt lp le e = -1 ∨ hb_af (G 66 (hb_nx G t k pt lp le e)) (hb_nx G t k pt lp le e) (G 66 e) e)) : hb_nx G t k pt lp le (e + 1) = e := by
  conv => lhs; unfold hb_nx
  exact if_pos h
theorem hb_nx_n {G : hb_G} {t k pt lp le : Int} {e : Nat} (h : ¬ ((hb_of G t k pt e ∧ hb_af (G 66 e) e lp le) ∧ (hb_nx G t k pt lp le e = -1 ∨ hb_af (G 66 (hb_nx G t k pt lp le e)) (hb_nx G t k pt lp le e) (G 66 e) e))) : hb_nx G t k pt lp le (e + 1) = hb_nx G t k pt lp le e := by
  conv => lhs; unfold hb_nx
  exact if_neg h
theorem hb_nx_in (G : hb_G) (t k pt lp le : Int) : ∀ n : Nat, -1 ≤ hb_nx G t k pt lp le n ∧ hb_nx G t k pt lp le n < n
  | 0 => by unfold hb_nx; omega
  | n + 1 => by
    have h1 := hb_nx_in G t k pt lp le n
    unfold hb_nx
    split <;> omega
/-- due points, step by step: m doings and concessions, in their order -/
def hb_ds (G : hb_G) (t k u pt : Int) (n m : Nat) (DD CN LP LE : Nat → Int) : Prop :=
  (CN 0 = 0 ∧ LP 0 = -1 ∧ LE 0 = -1) ∧ (∀ j, j ≤ m → (CN j = 0 ∨ CN j = 1) ∧ hb_in (LP j) ∧ hb_in (LE j) ∧ (-1000000000 ≤ DD j ∧ DD j ≤ 1000000000)) ∧ hb_nx G t k pt (LP m) (LE m) n = -1 ∧
  ∀ j, j < m → hb_nx G t k pt (LP j) (LE j) n ≠ -1 ∧ LP (j + 1) = G 66 (hb_nx G t k pt (LP j) (LE j) n) ∧ LE (j + 1) = hb_nx G t k pt (LP j) (LE j) n ∧ 0 ≤ LP (j + 1) ∧ 0 ≤ G 69 (LE (j + 1)) ∧
    (-1000000000 ≤ hb_cj G t u (LP (j + 1)) n ∧ hb_cj G t u (LP (j + 1)) n ≤ 1000000000) ∧
    ((G 63 (LE (j + 1)) = 4 ∧ CN (j + 1) = 1 ∧ DD (j + 1) = DD j + (if CN j = 0 then hb_aj G (LE (j + 1)) u else 0)) ∨
     (G 63 (LE (j + 1)) ≠ 4 ∧ CN (j + 1) = 0 ∧ DD (j + 1) = (if DD j < hb_cj G t u (LP (j + 1)) n ∧ hb_cj G t u (LP (j + 1)) n - DD j ≤ G 56 (3 * k + u) * G 57 k / 1000 then DD j else hb_cj G t u (LP (j + 1)) n) + G 56 (3 * k + u)))
set_option maxRecDepth 20000 in
set_option maxHeartbeats 1000000 in
theorem c_mDueAt0 {l : Launch} {G : hb_G} {F : hb_F} {na : Nat} {t k pt : Int} {n m : Nat} {DD CN LP LE : Nat → Int} (ht : 0 ≤ t ∧ t < 40) (hk : 0 ≤ k ∧ k < 16) (ip : hb_in pt) (hn : G 47 17 = n) (hn2 : n ≤ 200) (hiv : 0 ≤ G 56 (3 * k + 0) ∧ G 56 (3 * k + 0) ≤ 100000) (htl : 0 ≤ G 57 k ∧ G 57 k ≤ 500) (h0 : DD 0 = G 56 (3 * k + 0) + G 52 t) (hds : hb_ds G t k 0 pt n m DD CN LP LE) (hG : hb_rg G) : hb_M l yX9_dueAt cX9_dueAt 14 (some .int) 1 0 0 [hb_r 47, hb_i t, hb_i k, hb_i 0, hb_i pt] (hb_w G F na) (77 + na) (.inl (some (hb_i (DD m)))) (hb_w G F na) (77 + na) := by
  refine hb_M_in rfl rfl (by decide) rfl (Nat.le_of_ble_eq_true rfl) ?_
  intro E z0 σ0
  obtain ⟨hz, hB, hE, hst⟩ := hds
  have kend : hb_W l RX9 cX9_dueAt 14 (some .int) "dueAt" [] E z0 (hb_rm 1 0 0) σ0 (77 + na) (.inl (some (hb_i (DD m)))) (hb_w G F na) (77 + na) 0 0 57 [hb_r 47, hb_i t, hb_i k, hb_i 0, hb_i pt, hb_i (G 56 (3 * k + 0)), hb_i (DD m), hb_i (CN m), hb_i (LP m), hb_i (LE m), hb_i 0] [] (hb_w G F na) (77 + na) := by
    refine aw_ild10 dX9_dueAt_57 ?_
    refine aw_if_eq (tg := 292) dX9_dueAt_59 (by decide) (by decide) (fun c59 => ?_) (fun c59 => absurd c59 (by decide))
    refine aw_ild6 dX9_dueAt_292 ?_
    exact aw_iret dX9_dueAt_294 rfl (by rfl) rfl rfl (by decide) (by decide)
  have key : ∀ (r j : Nat), j + r = m → hb_W l RX9 cX9_dueAt 14 (some .int) "dueAt" [] E z0 (hb_rm 1 0 0) σ0 (77 + na) (.inl (some (hb_i (DD m)))) (hb_w G F na) (77 + na) 0 0 57 [hb_r 47, hb_i t, hb_i k, hb_i 0, hb_i pt, hb_i (G 56 (3 * k + 0)), hb_i (DD j), hb_i (CN j), hb_i (LP j), hb_i (LE j), hb_i 1] [] (hb_w G F na) (77 + na) := by
    intro r
    induction r with
    | zero =>
      intro j g0
      have e9 : m = j := by omega
      subst e9
      obtain ⟨q1, q2, q3, q4⟩ := hB m (by omega)
      have w3 := hE
      have in0 : ∀ (q e : Nat), e + q = n → hb_W l RX9 cX9_dueAt 14 (some .int) "dueAt" [] E z0 (hb_rm 1 0 0) σ0 (77 + na) (.inl (some (hb_i (DD m)))) (hb_w G F na) (77 + na) 0 0 68 [hb_r 47, hb_i t, hb_i k, hb_i 0, hb_i pt, hb_i (G 56 (3 * k + 0)), hb_i (DD m), hb_i (CN m), hb_i (LP m), hb_i (LE m), hb_i 1, hb_i (hb_nx G t k pt (LP m) (LE m) e), hb_i (e : Int)] [] (hb_w G F na) (77 + na) := by
        intro q
        induction q with
        | zero =>
          intro e g1
          have e9 : e = n := by omega
          subst e9
          refine aw_ild12 dX9_dueAt_68 ?_
          refine aw_ald0 dX9_dueAt_70 ?_
          refine aw_getf dX9_dueAt_71 hbf_X9_126 rfl rfl ?_
          refine aw_icmp_ge (tg := 152) dX9_dueAt_74 (by decide) (by constructor <;> omega) (by constructor <;> omega) (fun c74 => ?_) (fun c74 => absurd c74 (by omega))
          refine aw_ild11 dX9_dueAt_152 ?_
          refine aw_iconst dX9_dueAt_154 ?_
          refine aw_icmp_eq (tg := 162) dX9_dueAt_155 (by decide) (by constructor <;> omega) (by decide) (fun c155 => ?_) (fun c155 => absurd c155 (by omega))
          refine aw_iconst dX9_dueAt_162 ?_
          refine aw_ist10 dX9_dueAt_163 (by decide) ?_
          refine aw_ild10 dX9_dueAt_165 ?_
          refine aw_if_ne (tg := 173) dX9_dueAt_167 (by decide) (by decide) (fun c167 => absurd c167 (by decide)) (fun c167 => ?_)
          refine aw_goto (tg := 57) dX9_dueAt_170 (by decide) ?_
          refine aw_dk_11_2 ?_
          exact kend
        | succ q ih2 =>
          intro e g1
          have h9 := ih2 (e + 1) (by omega)
          have q9 := hb_nx_in G t k pt (LP m) (LE m) e
          refine aw_ild12 dX9_dueAt_68 ?_
          refine aw_ald0 dX9_dueAt_70 ?_
          refine aw_getf dX9_dueAt_71 hbf_X9_126 rfl rfl ?_
          refine aw_icmp_ge (tg := 152) dX9_dueAt_74 (by decide) (by constructor <;> omega) (by constructor <;> omega) (fun c74 => absurd c74 (by omega)) (fun c74 => ?_)
          refine aw_ald0 dX9_dueAt_77 ?_
          refine aw_ild12 dX9_dueAt_78 ?_
          refine aw_ild1 dX9_dueAt_80 ?_
          refine aw_ild2 dX9_dueAt_81 ?_
          refine aw_ild4 dX9_dueAt_82 ?_
          refine aw_V4v dX9_dueAt_84 (c_mIsOf (by omega) (by constructor <;> omega) (by constructor <;> omega) ip hG) rfl rfl hbY_X9_isOf hbm_X9_196 hbi_X9_isOf hbe_X9_X9_isOf (Nat.le_of_ble_eq_true rfl) ⟨by decide, by decide⟩ (by decide) (by decide) ?_
          refine aw_ifb_eq (tg := 146) dX9_dueAt_87 (by decide) (fun c87 => ?_) (fun c87 => ?_)
          · skip
            refine aw_iinc12 dX9_dueAt_146 (by decide) ?_
            refine aw_goto (tg := 68) dX9_dueAt_149 (by decide) ?_
            first | (rw [hb_nx_y (G := G) (t := t) (k := k) (pt := pt) (lp := LP m) (le := LE m) (e := e) ⟨⟨c87, c106⟩, Or.inl c115⟩] at h9; exact h9) | (rw [hb_nx_y (G := G) (t := t) (k := k) (pt := pt) (lp := LP m) (le := LE m) (e := e) ⟨⟨c87, c106⟩, Or.inr c139⟩] at h9; exact h9) | (rw [hb_nx_n (G := G) (t := t) (k := k) (pt := pt) (lp := LP m) (le := LE m) (e := e) (fun h8 => by first | exact c87 h8.1.1 | exact c106 h8.1.2 | (rcases h8.2 with h7 | h7; exact c115 h7; exact c139 h7))] at h9; exact h9)
          · skip
            refine aw_ald0 dX9_dueAt_90 ?_
            refine aw_getf dX9_dueAt_91 hbf_X9_65 rfl rfl ?_
            refine aw_ild12 dX9_dueAt_94 ?_
            refine aw_iald dX9_dueAt_96 rfl (by constructor <;> omega) (by decide) ?_
            refine aw_ild12 dX9_dueAt_97 ?_
            refine aw_ild8 dX9_dueAt_99 ?_
            refine aw_ild9 dX9_dueAt_101 ?_
            refine aw_S4v dX9_dueAt_103 (c_mIsAfter (hG _ _) (by constructor <;> omega) q2 q3) hbY_X9_isAfter hbm_X9_200 hbs_X9_isAfter (Nat.le_of_ble_eq_true rfl) ⟨by decide, by decide⟩ (by decide) (by decide) ?_
            refine aw_ifb_ne (tg := 112) dX9_dueAt_106 (by decide) (fun c106 => ?_) (fun c106 => ?_)
            · skip
              refine aw_ild11 dX9_dueAt_112 ?_
              refine aw_iconst dX9_dueAt_114 ?_
              refine aw_icmp_eq (tg := 142) dX9_dueAt_115 (by decide) (by constructor <;> omega) (by decide) (fun c115 => ?_) (fun c115 => ?_)
              · skip
                refine aw_ild12 dX9_dueAt_142 ?_
                refine aw_ist11 dX9_dueAt_144 (by decide) ?_
                refine aw_iinc12 dX9_dueAt_146 (by decide) ?_
                refine aw_goto (tg := 68) dX9_dueAt_149 (by decide) ?_
                first | (rw [hb_nx_y (G := G) (t := t) (k := k) (pt := pt) (lp := LP m) (le := LE m) (e := e) ⟨⟨c87, c106⟩, Or.inl c115⟩] at h9; exact h9) | (rw [hb_nx_y (G := G) (t := t) (k := k) (pt := pt) (lp := LP m) (le := LE m) (e := e) ⟨⟨c87, c106⟩, Or.inr c139⟩] at h9; exact h9) | (rw [hb_nx_n (G := G) (t := t) (k := k) (pt := pt) (lp := LP m) (le := LE m) (e := e) (fun h8 => by first | exact c87 h8.1.1 | exact c106 h8.1.2 | (rcases h8.2 with h7 | h7; exact c115 h7; exact c139 h7))] at h9; exact h9)
              · skip
                refine aw_ald0 dX9_dueAt_118 ?_
                refine aw_getf dX9_dueAt_119 hbf_X9_65 rfl rfl ?_
                refine aw_ild11 dX9_dueAt_122 ?_
                refine aw_iald dX9_dueAt_124 rfl (by constructor <;> omega) (by decide) ?_
                refine aw_ild11 dX9_dueAt_125 ?_
                refine aw_ald0 dX9_dueAt_127 ?_
                refine aw_getf dX9_dueAt_128 hbf_X9_65 rfl rfl ?_
                refine aw_ild12 dX9_dueAt_131 ?_
                refine aw_iald dX9_dueAt_133 rfl (by constructor <;> omega) (by decide) ?_
                refine aw_ild12 dX9_dueAt_134 ?_
                refine aw_S4v dX9_dueAt_136 (c_mIsAfter (hG _ _) (by constructor <;> omega) (hG _ _) (by constructor <;> omega)) hbY_X9_isAfter hbm_X9_200 hbs_X9_isAfter (Nat.le_of_ble_eq_true rfl) ⟨by decide, by decide⟩ (by decide) (by decide) ?_
                refine aw_ifb_eq (tg := 146) dX9_dueAt_139 (by decide) (fun c139 => ?_) (fun c139 => ?_)
                · skip
                  refine aw_iinc12 dX9_dueAt_146 (by decide) ?_
                  refine aw_goto (tg := 68) dX9_dueAt_149 (by decide) ?_
                  first | (rw [hb_nx_y (G := G) (t := t) (k := k) (pt := pt) (lp := LP m) (le := LE m) (e := e) ⟨⟨c87, c106⟩, Or.inl c115⟩] at h9; exact h9) | (rw [hb_nx_y (G := G) (t := t) (k := k) (pt := pt) (lp := LP m) (le := LE m) (e := e) ⟨⟨c87, c106⟩, Or.inr c139⟩] at h9; exact h9) | (rw [hb_nx_n (G := G) (t := t) (k := k) (pt := pt) (lp := LP m) (le := LE m) (e := e) (fun h8 => by first | exact c87 h8.1.1 | exact c106 h8.1.2 | (rcases h8.2 with h7 | h7; exact c115 h7; exact c139 h7))] at h9; exact h9)
                · skip
                  refine aw_ild12 dX9_dueAt_142 ?_
                  refine aw_ist11 dX9_dueAt_144 (by decide) ?_
                  refine aw_iinc12 dX9_dueAt_146 (by decide) ?_
                  refine aw_goto (tg := 68) dX9_dueAt_149 (by decide) ?_
                  first | (rw [hb_nx_y (G := G) (t := t) (k := k) (pt := pt) (lp := LP m) (le := LE m) (e := e) ⟨⟨c87, c106⟩, Or.inl c115⟩] at h9; exact h9) | (rw [hb_nx_y (G := G) (t := t) (k := k) (pt := pt) (lp := LP m) (le := LE m) (e := e) ⟨⟨c87, c106⟩, Or.inr c139⟩] at h9; exact h9) | (rw [hb_nx_n (G := G) (t := t) (k := k) (pt := pt) (lp := LP m) (le := LE m) (e := e) (fun h8 => by first | exact c87 h8.1.1 | exact c106 h8.1.2 | (rcases h8.2 with h7 | h7; exact c115 h7; exact c139 h7))] at h9; exact h9)
            · skip
              refine aw_goto (tg := 146) dX9_dueAt_109 (by decide) ?_
              refine aw_iinc12 dX9_dueAt_146 (by decide) ?_
              refine aw_goto (tg := 68) dX9_dueAt_149 (by decide) ?_
              first | (rw [hb_nx_y (G := G) (t := t) (k := k) (pt := pt) (lp := LP m) (le := LE m) (e := e) ⟨⟨c87, c106⟩, Or.inl c115⟩] at h9; exact h9) | (rw [hb_nx_y (G := G) (t := t) (k := k) (pt := pt) (lp := LP m) (le := LE m) (e := e) ⟨⟨c87, c106⟩, Or.inr c139⟩] at h9; exact h9) | (rw [hb_nx_n (G := G) (t := t) (k := k) (pt := pt) (lp := LP m) (le := LE m) (e := e) (fun h8 => by first | exact c87 h8.1.1 | exact c106 h8.1.2 | (rcases h8.2 with h7 | h7; exact c115 h7; exact c139 h7))] at h9; exact h9)
      refine aw_ild10 dX9_dueAt_57 ?_
      refine aw_if_eq (tg := 292) dX9_dueAt_59 (by decide) (by decide) (fun c59 => absurd c59 (by decide)) (fun c59 => ?_)
      refine aw_iconst dX9_dueAt_62 ?_
      refine aw_ipu11 dX9_dueAt_63 (by decide) ?_
      refine aw_iconst dX9_dueAt_65 ?_
      refine aw_ipu12 dX9_dueAt_66 (by decide) ?_
      exact in0 n 0 (by omega)
    | succ r ih =>
      intro j g0
      obtain ⟨q1, q2, q3, q4⟩ := hB j (by omega)
      obtain ⟨w1, w2, w3, w4, w5, w6, w7⟩ := hst j (by omega)
      have h9 := ih (j + 1) (by omega)
      have q8 := hb_nx_in G t k pt (LP j) (LE j) n
      rw [← w3] at w1 q8
      obtain ⟨p1, p2, p3, p4⟩ := hB (j + 1) (by omega)
      have in1 : ∀ (q e : Nat), e + q = n → hb_W l RX9 cX9_dueAt 14 (some .int) "dueAt" [] E z0 (hb_rm 1 0 0) σ0 (77 + na) (.inl (some (hb_i (DD m)))) (hb_w G F na) (77 + na) 0 0 68 [hb_r 47, hb_i t, hb_i k, hb_i 0, hb_i pt, hb_i (G 56 (3 * k + 0)), hb_i (DD j), hb_i (CN j), hb_i (LP j), hb_i (LE j), hb_i 1, hb_i (hb_nx G t k pt (LP j) (LE j) e), hb_i (e : Int)] [] (hb_w G F na) (77 + na) := by
        intro q
        induction q with
        | zero =>
          intro e g1
          have e9 : e = n := by omega
          subst e9
          rw [← w3]
          rcases w7 with ⟨v1, v2, v3⟩ | ⟨v1, v2, v3⟩
          · rcases q1 with q1 | q1
            · rw [q1, if_pos rfl] at v3
              refine aw_ild12 dX9_dueAt_68 ?_
              refine aw_ald0 dX9_dueAt_70 ?_
              refine aw_getf dX9_dueAt_71 hbf_X9_126 rfl rfl ?_
              refine aw_icmp_ge (tg := 152) dX9_dueAt_74 (by decide) (by constructor <;> omega) (by constructor <;> omega) (fun c74 => ?_) (fun c74 => absurd c74 (by omega))
              refine aw_ild11 dX9_dueAt_152 ?_
              refine aw_iconst dX9_dueAt_154 ?_
              refine aw_icmp_eq (tg := 162) dX9_dueAt_155 (by decide) (by constructor <;> omega) (by decide) (fun c155 => absurd c155 (by omega)) (fun c155 => ?_)
              refine aw_iconst dX9_dueAt_158 ?_
              refine aw_goto (tg := 163) dX9_dueAt_159 (by decide) ?_
              refine aw_ist10 dX9_dueAt_163 (by decide) ?_
              refine aw_ild10 dX9_dueAt_165 ?_
              refine aw_if_ne (tg := 173) dX9_dueAt_167 (by decide) (by decide) (fun c167 => ?_) (fun c167 => absurd c167 (by decide))
              refine aw_ald0 dX9_dueAt_173 ?_
              refine aw_getf dX9_dueAt_174 hbf_X9_65 rfl rfl ?_
              refine aw_ild11 dX9_dueAt_177 ?_
              refine aw_iald dX9_dueAt_179 rfl (by constructor <;> omega) (by decide) ?_
              refine aw_top (c9 := LP (j + 1)) (by rw [w2, w3]) ?_
              refine aw_ist8 dX9_dueAt_180 (by decide) ?_
              refine aw_ild11 dX9_dueAt_182 ?_
              refine aw_ist9 dX9_dueAt_184 (by decide) ?_
              refine aw_ald0 dX9_dueAt_186 ?_
              refine aw_getf dX9_dueAt_187 hbf_X9_55 rfl rfl ?_
              refine aw_ild11 dX9_dueAt_190 ?_
              refine aw_iald dX9_dueAt_192 rfl (by constructor <;> omega) (by decide) ?_
              refine aw_iconst dX9_dueAt_193 ?_
              refine aw_icmp_ne (tg := 224) dX9_dueAt_194 (by decide) (hG _ _) (by decide) (fun c194 => absurd c194 (by omega)) (fun c194 => ?_)
              refine aw_ild6 dX9_dueAt_197 ?_
              refine aw_ild7 dX9_dueAt_199 ?_
              refine aw_if_eq (tg := 208) dX9_dueAt_201 (by decide) (by constructor <;> omega) (fun c201 => ?_) (fun c201 => absurd c201 (by omega))
              refine aw_ald0 dX9_dueAt_208 ?_
              refine aw_ild11 dX9_dueAt_209 ?_
              refine aw_ild3 dX9_dueAt_211 ?_
              refine aw_V2v dX9_dueAt_212 (c_mAmount0 (by omega) w5 hG) rfl rfl hbY_X9_amount hbm_X9_203 hbi_X9_amount hbe_X9_X9_amount (Nat.le_of_ble_eq_true rfl) ⟨by decide, by decide⟩ (by decide) (by decide) ?_
              refine aw_iadd dX9_dueAt_215 ?_
              refine aw_ist6 dX9_dueAt_216 (by decide) ?_
              refine aw_iconst dX9_dueAt_218 ?_
              refine aw_ist7 dX9_dueAt_219 (by decide) ?_
              refine aw_goto (tg := 57) dX9_dueAt_221 (by decide) ?_
              refine aw_dk_11_2 ?_
              rw [v2, v3] at h9
              exact h9
            · rw [if_neg (by omega)] at v3
              refine aw_ild12 dX9_dueAt_68 ?_
              refine aw_ald0 dX9_dueAt_70 ?_
              refine aw_getf dX9_dueAt_71 hbf_X9_126 rfl rfl ?_
              refine aw_icmp_ge (tg := 152) dX9_dueAt_74 (by decide) (by constructor <;> omega) (by constructor <;> omega) (fun c74 => ?_) (fun c74 => absurd c74 (by omega))
              refine aw_ild11 dX9_dueAt_152 ?_
              refine aw_iconst dX9_dueAt_154 ?_
              refine aw_icmp_eq (tg := 162) dX9_dueAt_155 (by decide) (by constructor <;> omega) (by decide) (fun c155 => absurd c155 (by omega)) (fun c155 => ?_)
              refine aw_iconst dX9_dueAt_158 ?_
              refine aw_goto (tg := 163) dX9_dueAt_159 (by decide) ?_
              refine aw_ist10 dX9_dueAt_163 (by decide) ?_
              refine aw_ild10 dX9_dueAt_165 ?_
              refine aw_if_ne (tg := 173) dX9_dueAt_167 (by decide) (by decide) (fun c167 => ?_) (fun c167 => absurd c167 (by decide))
              refine aw_ald0 dX9_dueAt_173 ?_
              refine aw_getf dX9_dueAt_174 hbf_X9_65 rfl rfl ?_
              refine aw_ild11 dX9_dueAt_177 ?_
              refine aw_iald dX9_dueAt_179 rfl (by constructor <;> omega) (by decide) ?_
              refine aw_top (c9 := LP (j + 1)) (by rw [w2, w3]) ?_
              refine aw_ist8 dX9_dueAt_180 (by decide) ?_
              refine aw_ild11 dX9_dueAt_182 ?_
              refine aw_ist9 dX9_dueAt_184 (by decide) ?_
              refine aw_ald0 dX9_dueAt_186 ?_
              refine aw_getf dX9_dueAt_187 hbf_X9_55 rfl rfl ?_
              refine aw_ild11 dX9_dueAt_190 ?_
              refine aw_iald dX9_dueAt_192 rfl (by constructor <;> omega) (by decide) ?_
              refine aw_iconst dX9_dueAt_193 ?_
              refine aw_icmp_ne (tg := 224) dX9_dueAt_194 (by decide) (hG _ _) (by decide) (fun c194 => absurd c194 (by omega)) (fun c194 => ?_)
              refine aw_ild6 dX9_dueAt_197 ?_
              refine aw_ild7 dX9_dueAt_199 ?_
              refine aw_if_eq (tg := 208) dX9_dueAt_201 (by decide) (by constructor <;> omega) (fun c201 => absurd c201 (by omega)) (fun c201 => ?_)
              refine aw_iconst dX9_dueAt_204 ?_
              refine aw_goto (tg := 215) dX9_dueAt_205 (by decide) ?_
              refine aw_iadd dX9_dueAt_215 ?_
              refine aw_ist6 dX9_dueAt_216 (by decide) ?_
              refine aw_iconst dX9_dueAt_218 ?_
              refine aw_ist7 dX9_dueAt_219 (by decide) ?_
              refine aw_goto (tg := 57) dX9_dueAt_221 (by decide) ?_
              refine aw_dk_11_2 ?_
              rw [v2, v3] at h9
              exact h9
          · have v1 := v1
            refine aw_ild12 dX9_dueAt_68 ?_
            refine aw_ald0 dX9_dueAt_70 ?_
            refine aw_getf dX9_dueAt_71 hbf_X9_126 rfl rfl ?_
            refine aw_icmp_ge (tg := 152) dX9_dueAt_74 (by decide) (by constructor <;> omega) (by constructor <;> omega) (fun c74 => ?_) (fun c74 => absurd c74 (by omega))
            refine aw_ild11 dX9_dueAt_152 ?_
            refine aw_iconst dX9_dueAt_154 ?_
            refine aw_icmp_eq (tg := 162) dX9_dueAt_155 (by decide) (by constructor <;> omega) (by decide) (fun c155 => absurd c155 (by omega)) (fun c155 => ?_)
            refine aw_iconst dX9_dueAt_158 ?_
            refine aw_goto (tg := 163) dX9_dueAt_159 (by decide) ?_
            refine aw_ist10 dX9_dueAt_163 (by decide) ?_
            refine aw_ild10 dX9_dueAt_165 ?_
            refine aw_if_ne (tg := 173) dX9_dueAt_167 (by decide) (by decide) (fun c167 => ?_) (fun c167 => absurd c167 (by decide))
            refine aw_ald0 dX9_dueAt_173 ?_
            refine aw_getf dX9_dueAt_174 hbf_X9_65 rfl rfl ?_
            refine aw_ild11 dX9_dueAt_177 ?_
            refine aw_iald dX9_dueAt_179 rfl (by constructor <;> omega) (by decide) ?_
            refine aw_top (c9 := LP (j + 1)) (by rw [w2, w3]) ?_
            refine aw_ist8 dX9_dueAt_180 (by decide) ?_
            refine aw_ild11 dX9_dueAt_182 ?_
            refine aw_ist9 dX9_dueAt_184 (by decide) ?_
            refine aw_ald0 dX9_dueAt_186 ?_
            refine aw_getf dX9_dueAt_187 hbf_X9_55 rfl rfl ?_
            refine aw_ild11 dX9_dueAt_190 ?_
            refine aw_iald dX9_dueAt_192 rfl (by constructor <;> omega) (by decide) ?_
            refine aw_iconst dX9_dueAt_193 ?_
            refine aw_icmp_ne (tg := 224) dX9_dueAt_194 (by decide) (hG _ _) (by decide) (fun c194 => ?_) (fun c194 => absurd c194 (by omega))
            refine aw_iconst dX9_dueAt_224 ?_
            refine aw_ist7 dX9_dueAt_225 (by decide) ?_
            refine aw_ald0 dX9_dueAt_227 ?_
            refine aw_ild1 dX9_dueAt_228 ?_
            refine aw_ild3 dX9_dueAt_229 ?_
            refine aw_ild8 dX9_dueAt_230 ?_
            refine aw_V3v dX9_dueAt_232 (c_mCounterAt0 (by omega) p2 w4 hn hn2 hG) rfl rfl hbY_X9_counterAt hbm_X9_192 hbi_X9_counterAt hbe_X9_X9_counterAt (Nat.le_of_ble_eq_true rfl) ⟨by decide, by decide⟩ (by decide) (by decide) ?_
            refine aw_ist12 dX9_dueAt_235 (by decide) ?_
            refine aw_ild12 dX9_dueAt_237 ?_
            refine aw_ild6 dX9_dueAt_239 ?_
            refine aw_icmp_le (tg := 269) dX9_dueAt_241 (by decide) (by constructor <;> omega) (by constructor <;> omega) (fun c241 => ?_) (fun c241 => ?_)
            · skip
              refine aw_iconst dX9_dueAt_269 ?_
              refine aw_ipu13 dX9_dueAt_270 (by decide) ?_
              refine aw_ild13 dX9_dueAt_272 ?_
              refine aw_if_eq (tg := 282) dX9_dueAt_274 (by decide) (by decide) (fun c274 => ?_) (fun c274 => absurd c274 (by decide))
              refine aw_ild12 dX9_dueAt_282 ?_
              refine aw_ild5 dX9_dueAt_284 ?_
              refine aw_iadd dX9_dueAt_286 ?_
              refine aw_ist6 dX9_dueAt_287 (by decide) ?_
              refine aw_goto (tg := 57) dX9_dueAt_289 (by decide) ?_
              refine aw_dk_11_3 ?_
              rw [v2, v3] at h9
              first | (rw [if_pos ⟨by assumption, by assumption⟩] at h9; exact h9) | (rw [if_neg (fun h8 => by have a1 := h8.1; have a2 := h8.2; omega)] at h9; exact h9)
            · skip
              refine aw_ild12 dX9_dueAt_244 ?_
              refine aw_ild6 dX9_dueAt_246 ?_
              refine aw_isub dX9_dueAt_248 ?_
              refine aw_ild5 dX9_dueAt_249 ?_
              refine aw_ald0 dX9_dueAt_251 ?_
              refine aw_getf dX9_dueAt_252 hbf_X9_37 rfl rfl ?_
              refine aw_ild2 dX9_dueAt_255 ?_
              refine aw_iald dX9_dueAt_256 rfl (by constructor <;> omega) (by decide) ?_
              refine aw_imul dX9_dueAt_257 ?_
              refine aw_sipush dX9_dueAt_258 (by decide) ?_
              refine aw_idiv dX9_dueAt_261 (hb_m5 hiv htl).1 (by decide) (hb_m5 hiv htl).2 (by decide) ?_
              refine aw_icmp_gt (tg := 269) dX9_dueAt_262 (by decide) (by constructor <;> omega) (by have h8 := (hb_m5 hiv htl); constructor <;> omega) (fun c262 => ?_) (fun c262 => ?_)
              · skip
                refine aw_iconst dX9_dueAt_269 ?_
                refine aw_ipu13 dX9_dueAt_270 (by decide) ?_
                refine aw_ild13 dX9_dueAt_272 ?_
                refine aw_if_eq (tg := 282) dX9_dueAt_274 (by decide) (by decide) (fun c274 => ?_) (fun c274 => absurd c274 (by decide))
                refine aw_ild12 dX9_dueAt_282 ?_
                refine aw_ild5 dX9_dueAt_284 ?_
                refine aw_iadd dX9_dueAt_286 ?_
                refine aw_ist6 dX9_dueAt_287 (by decide) ?_
                refine aw_goto (tg := 57) dX9_dueAt_289 (by decide) ?_
                refine aw_dk_11_3 ?_
                rw [v2, v3] at h9
                first | (rw [if_pos ⟨by assumption, by assumption⟩] at h9; exact h9) | (rw [if_neg (fun h8 => by have a1 := h8.1; have a2 := h8.2; omega)] at h9; exact h9)
              · skip
                refine aw_iconst dX9_dueAt_265 ?_
                refine aw_goto (tg := 270) dX9_dueAt_266 (by decide) ?_
                refine aw_ipu13 dX9_dueAt_270 (by decide) ?_
                refine aw_ild13 dX9_dueAt_272 ?_
                refine aw_if_eq (tg := 282) dX9_dueAt_274 (by decide) (by decide) (fun c274 => absurd c274 (by decide)) (fun c274 => ?_)
                refine aw_ild6 dX9_dueAt_277 ?_
                refine aw_goto (tg := 284) dX9_dueAt_279 (by decide) ?_
                refine aw_ild5 dX9_dueAt_284 ?_
                refine aw_iadd dX9_dueAt_286 ?_
                refine aw_ist6 dX9_dueAt_287 (by decide) ?_
                refine aw_goto (tg := 57) dX9_dueAt_289 (by decide) ?_
                refine aw_dk_11_3 ?_
                rw [v2, v3] at h9
                first | (rw [if_pos ⟨by assumption, by assumption⟩] at h9; exact h9) | (rw [if_neg (fun h8 => by have a1 := h8.1; have a2 := h8.2; omega)] at h9; exact h9)
        | succ q ih2 =>
          intro e g1
          have h9 := ih2 (e + 1) (by omega)
          have q9 := hb_nx_in G t k pt (LP j) (LE j) e
          refine aw_ild12 dX9_dueAt_68 ?_
          refine aw_ald0 dX9_dueAt_70 ?_
          refine aw_getf dX9_dueAt_71 hbf_X9_126 rfl rfl ?_
          refine aw_icmp_ge (tg := 152) dX9_dueAt_74 (by decide) (by constructor <;> omega) (by constructor <;> omega) (fun c74 => absurd c74 (by omega)) (fun c74 => ?_)
          refine aw_ald0 dX9_dueAt_77 ?_
          refine aw_ild12 dX9_dueAt_78 ?_
          refine aw_ild1 dX9_dueAt_80 ?_
          refine aw_ild2 dX9_dueAt_81 ?_
          refine aw_ild4 dX9_dueAt_82 ?_
          refine aw_V4v dX9_dueAt_84 (c_mIsOf (by omega) (by constructor <;> omega) (by constructor <;> omega) ip hG) rfl rfl hbY_X9_isOf hbm_X9_196 hbi_X9_isOf hbe_X9_X9_isOf (Nat.le_of_ble_eq_true rfl) ⟨by decide, by decide⟩ (by decide) (by decide) ?_
          refine aw_ifb_eq (tg := 146) dX9_dueAt_87 (by decide) (fun c87 => ?_) (fun c87 => ?_)
          · skip
            refine aw_iinc12 dX9_dueAt_146 (by decide) ?_
            refine aw_goto (tg := 68) dX9_dueAt_149 (by decide) ?_
            first | (rw [hb_nx_y (G := G) (t := t) (k := k) (pt := pt) (lp := LP j) (le := LE j) (e := e) ⟨⟨c87, c106⟩, Or.inl c115⟩] at h9; exact h9) | (rw [hb_nx_y (G := G) (t := t) (k := k) (pt := pt) (lp := LP j) (le := LE j) (e := e) ⟨⟨c87, c106⟩, Or.inr c139⟩] at h9; exact h9) | (rw [hb_nx_n (G := G) (t := t) (k := k) (pt := pt) (lp := LP j) (le := LE j) (e := e) (fun h8 => by first | exact c87 h8.1.1 | exact c106 h8.1.2 | (rcases h8.2 with h7 | h7; exact c115 h7; exact c139 h7))] at h9; exact h9)
          · skip
            refine aw_ald0 dX9_dueAt_90 ?_
            refine aw_getf dX9_dueAt_91 hbf_X9_65 rfl rfl ?_
            refine aw_ild12 dX9_dueAt_94 ?_
            refine aw_iald dX9_dueAt_96 rfl (by constructor <;> omega) (by decide) ?_
            refine aw_ild12 dX9_dueAt_97 ?_
            refine aw_ild8 dX9_dueAt_99 ?_
            refine aw_ild9 dX9_dueAt_101 ?_
            refine aw_S4v dX9_dueAt_103 (c_mIsAfter (hG _ _) (by constructor <;> omega) q2 q3) hbY_X9_isAfter hbm_X9_200 hbs_X9_isAfter (Nat.le_of_ble_eq_true rfl) ⟨by decide, by decide⟩ (by decide) (by decide) ?_
            refine aw_ifb_ne (tg := 112) dX9_dueAt_106 (by decide) (fun c106 => ?_) (fun c106 => ?_)
            · skip
              refine aw_ild11 dX9_dueAt_112 ?_
              refine aw_iconst dX9_dueAt_114 ?_
              refine aw_icmp_eq (tg := 142) dX9_dueAt_115 (by decide) (by constructor <;> omega) (by decide) (fun c115 => ?_) (fun c115 => ?_)
              · skip
                refine aw_ild12 dX9_dueAt_142 ?_
                refine aw_ist11 dX9_dueAt_144 (by decide) ?_
                refine aw_iinc12 dX9_dueAt_146 (by decide) ?_
                refine aw_goto (tg := 68) dX9_dueAt_149 (by decide) ?_
                first | (rw [hb_nx_y (G := G) (t := t) (k := k) (pt := pt) (lp := LP j) (le := LE j) (e := e) ⟨⟨c87, c106⟩, Or.inl c115⟩] at h9; exact h9) | (rw [hb_nx_y (G := G) (t := t) (k := k) (pt := pt) (lp := LP j) (le := LE j) (e := e) ⟨⟨c87, c106⟩, Or.inr c139⟩] at h9; exact h9) | (rw [hb_nx_n (G := G) (t := t) (k := k) (pt := pt) (lp := LP j) (le := LE j) (e := e) (fun h8 => by first | exact c87 h8.1.1 | exact c106 h8.1.2 | (rcases h8.2 with h7 | h7; exact c115 h7; exact c139 h7))] at h9; exact h9)
              · skip
                refine aw_ald0 dX9_dueAt_118 ?_
                refine aw_getf dX9_dueAt_119 hbf_X9_65 rfl rfl ?_
                refine aw_ild11 dX9_dueAt_122 ?_
                refine aw_iald dX9_dueAt_124 rfl (by constructor <;> omega) (by decide) ?_
                refine aw_ild11 dX9_dueAt_125 ?_
                refine aw_ald0 dX9_dueAt_127 ?_
                refine aw_getf dX9_dueAt_128 hbf_X9_65 rfl rfl ?_
                refine aw_ild12 dX9_dueAt_131 ?_
                refine aw_iald dX9_dueAt_133 rfl (by constructor <;> omega) (by decide) ?_
                refine aw_ild12 dX9_dueAt_134 ?_
                refine aw_S4v dX9_dueAt_136 (c_mIsAfter (hG _ _) (by constructor <;> omega) (hG _ _) (by constructor <;> omega)) hbY_X9_isAfter hbm_X9_200 hbs_X9_isAfter (Nat.le_of_ble_eq_true rfl) ⟨by decide, by decide⟩ (by decide) (by decide) ?_
                refine aw_ifb_eq (tg := 146) dX9_dueAt_139 (by decide) (fun c139 => ?_) (fun c139 => ?_)
                · skip
                  refine aw_iinc12 dX9_dueAt_146 (by decide) ?_
                  refine aw_goto (tg := 68) dX9_dueAt_149 (by decide) ?_
                  first | (rw [hb_nx_y (G := G) (t := t) (k := k) (pt := pt) (lp := LP j) (le := LE j) (e := e) ⟨⟨c87, c106⟩, Or.inl c115⟩] at h9; exact h9) | (rw [hb_nx_y (G := G) (t := t) (k := k) (pt := pt) (lp := LP j) (le := LE j) (e := e) ⟨⟨c87, c106⟩, Or.inr c139⟩] at h9; exact h9) | (rw [hb_nx_n (G := G) (t := t) (k := k) (pt := pt) (lp := LP j) (le := LE j) (e := e) (fun h8 => by first | exact c87 h8.1.1 | exact c106 h8.1.2 | (rcases h8.2 with h7 | h7; exact c115 h7; exact c139 h7))] at h9; exact h9)
                · skip
                  refine aw_ild12 dX9_dueAt_142 ?_
                  refine aw_ist11 dX9_dueAt_144 (by decide) ?_
                  refine aw_iinc12 dX9_dueAt_146 (by decide) ?_
                  refine aw_goto (tg := 68) dX9_dueAt_149 (by decide) ?_
                  first | (rw [hb_nx_y (G := G) (t := t) (k := k) (pt := pt) (lp := LP j) (le := LE j) (e := e) ⟨⟨c87, c106⟩, Or.inl c115⟩] at h9; exact h9) | (rw [hb_nx_y (G := G) (t := t) (k := k) (pt := pt) (lp := LP j) (le := LE j) (e := e) ⟨⟨c87, c106⟩, Or.inr c139⟩] at h9; exact h9) | (rw [hb_nx_n (G := G) (t := t) (k := k) (pt := pt) (lp := LP j) (le := LE j) (e := e) (fun h8 => by first | exact c87 h8.1.1 | exact c106 h8.1.2 | (rcases h8.2 with h7 | h7; exact c115 h7; exact c139 h7))] at h9; exact h9)
            · skip
              refine aw_goto (tg := 146) dX9_dueAt_109 (by decide) ?_
              refine aw_iinc12 dX9_dueAt_146 (by decide) ?_
              refine aw_goto (tg := 68) dX9_dueAt_149 (by decide) ?_
              first | (rw [hb_nx_y (G := G) (t := t) (k := k) (pt := pt) (lp := LP j) (le := LE j) (e := e) ⟨⟨c87, c106⟩, Or.inl c115⟩] at h9; exact h9) | (rw [hb_nx_y (G := G) (t := t) (k := k) (pt := pt) (lp := LP j) (le := LE j) (e := e) ⟨⟨c87, c106⟩, Or.inr c139⟩] at h9; exact h9) | (rw [hb_nx_n (G := G) (t := t) (k := k) (pt := pt) (lp := LP j) (le := LE j) (e := e) (fun h8 => by first | exact c87 h8.1.1 | exact c106 h8.1.2 | (rcases h8.2 with h7 | h7; exact c115 h7; exact c139 h7))] at h9; exact h9)
      refine aw_ild10 dX9_dueAt_57 ?_
      refine aw_if_eq (tg := 292) dX9_dueAt_59 (by decide) (by decide) (fun c59 => absurd c59 (by decide)) (fun c59 => ?_)
      refine aw_iconst dX9_dueAt_62 ?_
      refine aw_ipu11 dX9_dueAt_63 (by decide) ?_
      refine aw_iconst dX9_dueAt_65 ?_
      refine aw_ipu12 dX9_dueAt_66 (by decide) ?_
      exact in1 n 0 (by omega)
  have h9 := key m 0 (by omega)
  rw [hz.1, hz.2.1, hz.2.2, h0] at h9
  refine aw_ald0 dX9_dueAt_0 ?_
  refine aw_getf dX9_dueAt_1 hbf_X9_34 rfl rfl ?_
  refine aw_iconst dX9_dueAt_4 ?_
  refine aw_ild2 dX9_dueAt_5 ?_
  refine aw_imul dX9_dueAt_6 ?_
  refine aw_ild3 dX9_dueAt_7 ?_
  refine aw_iadd dX9_dueAt_8 ?_
  refine aw_iald dX9_dueAt_9 rfl (by constructor <;> omega) (by decide) ?_
  refine aw_ipu5 dX9_dueAt_10 (by decide) ?_
  refine aw_ild5 dX9_dueAt_12 ?_
  refine aw_ild3 dX9_dueAt_14 ?_
  refine aw_if_ne (tg := 27) dX9_dueAt_15 (by decide) (by decide) (fun c15 => absurd c15 (by decide)) (fun c15 => ?_)
  refine aw_ald0 dX9_dueAt_18 ?_
  refine aw_getf dX9_dueAt_19 hbf_X9_22 rfl rfl ?_
  refine aw_ild1 dX9_dueAt_22 ?_
  refine aw_iald dX9_dueAt_23 rfl (by constructor <;> omega) (by decide) ?_
  refine aw_goto (tg := 42) dX9_dueAt_24 (by decide) ?_
  refine aw_iadd dX9_dueAt_42 ?_
  refine aw_ipu6 dX9_dueAt_43 (by decide) ?_
  refine aw_iconst dX9_dueAt_45 ?_
  refine aw_ipu7 dX9_dueAt_46 (by decide) ?_
  refine aw_iconst dX9_dueAt_48 ?_
  refine aw_ipu8 dX9_dueAt_49 (by decide) ?_
  refine aw_iconst dX9_dueAt_51 ?_
  refine aw_ipu9 dX9_dueAt_52 (by decide) ?_
  refine aw_iconst dX9_dueAt_54 ?_
  refine aw_ipu10 dX9_dueAt_55 (by decide) ?_
  exact h9
set_option maxRecDepth 20000 in
set_option maxHeartbeats 1000000 in
theorem c_mDueAt1 {l : Launch} {G : hb_G} {F : hb_F} {na : Nat} {t k pt : Int} {n m : Nat} {DD CN LP LE : Nat → Int} (ht : 0 ≤ t ∧ t < 40) (hk : 0 ≤ k ∧ k < 16) (ip : hb_in pt) (hn : G 47 17 = n) (hn2 : n ≤ 200) (hiv : 0 ≤ G 56 (3 * k + 1) ∧ G 56 (3 * k + 1) ≤ 100000) (htl : 0 ≤ G 57 k ∧ G 57 k ≤ 500) (h0 : DD 0 = G 56 (3 * k + 1) + G 53 t) (hds : hb_ds G t k 1 pt n m DD CN LP LE) (hG : hb_rg G) : hb_M l yX9_dueAt cX9_dueAt 14 (some .int) 1 0 0 [hb_r 47, hb_i t, hb_i k, hb_i 1, hb_i pt] (hb_w G F na) (77 + na) (.inl (some (hb_i (DD m)))) (hb_w G F na) (77 + na) := by
  refine hb_M_in rfl rfl (by decide) rfl (Nat.le_of_ble_eq_true rfl) ?_
  intro E z0 σ0
  obtain ⟨hz, hB, hE, hst⟩ := hds
  have kend : hb_W l RX9 cX9_dueAt 14 (some .int) "dueAt" [] E z0 (hb_rm 1 0 0) σ0 (77 + na) (.inl (some (hb_i (DD m)))) (hb_w G F na) (77 + na) 0 0 57 [hb_r 47, hb_i t, hb_i k, hb_i 1, hb_i pt, hb_i (G 56 (3 * k + 1)), hb_i (DD m), hb_i (CN m), hb_i (LP m), hb_i (LE m), hb_i 0] [] (hb_w G F na) (77 + na) := by
    refine aw_ild10 dX9_dueAt_57 ?_
    refine aw_if_eq (tg := 292) dX9_dueAt_59 (by decide) (by decide) (fun c59 => ?_) (fun c59 => absurd c59 (by decide))
    refine aw_ild6 dX9_dueAt_292 ?_
    exact aw_iret dX9_dueAt_294 rfl (by rfl) rfl rfl (by decide) (by decide)
  have key : ∀ (r j : Nat), j + r = m → hb_W l RX9 cX9_dueAt 14 (some .int) "dueAt" [] E z0 (hb_rm 1 0 0) σ0 (77 + na) (.inl (some (hb_i (DD m)))) (hb_w G F na) (77 + na) 0 0 57 [hb_r 47, hb_i t, hb_i k, hb_i 1, hb_i pt, hb_i (G 56 (3 * k + 1)), hb_i (DD j), hb_i (CN j), hb_i (LP j), hb_i (LE j), hb_i 1] [] (hb_w G F na) (77 + na) := by
    intro r
    induction r with
    | zero =>
      intro j g0
      have e9 : m = j := by omega
      subst e9
      obtain ⟨q1, q2, q3, q4⟩ := hB m (by omega)
      have w3 := hE
      have in0 : ∀ (q e : Nat), e + q = n → hb_W l RX9 cX9_dueAt 14 (some .int) "dueAt" [] E z0 (hb_rm 1 0 0) σ0 (77 + na) (.inl (some (hb_i (DD m)))) (hb_w G F na) (77 + na) 0 0 68 [hb_r 47, hb_i t, hb_i k, hb_i 1, hb_i pt, hb_i (G 56 (3 * k + 1)), hb_i (DD m), hb_i (CN m), hb_i (LP m), hb_i (LE m), hb_i 1, hb_i (hb_nx G t k pt (LP m) (LE m) e), hb_i (e : Int)] [] (hb_w G F na) (77 + na) := by
        intro q
        induction q with
        | zero =>
          intro e g1
          have e9 : e = n := by omega
          subst e9
          refine aw_ild12 dX9_dueAt_68 ?_
          refine aw_ald0 dX9_dueAt_70 ?_
          refine aw_getf dX9_dueAt_71 hbf_X9_126 rfl rfl ?_
          refine aw_icmp_ge (tg := 152) dX9_dueAt_74 (by decide) (by constructor <;> omega) (by constructor <;> omega) (fun c74 => ?_) (fun c74 => absurd c74 (by omega))
          refine aw_ild11 dX9_dueAt_152 ?_
          refine aw_iconst dX9_dueAt_154 ?_
          refine aw_icmp_eq (tg := 162) dX9_dueAt_155 (by decide) (by constructor <;> omega) (by decide) (fun c155 => ?_) (fun c155 => absurd c155 (by omega))
          refine aw_iconst dX9_dueAt_162 ?_
          refine aw_ist10 dX9_dueAt_163 (by decide) ?_
          refine aw_ild10 dX9_dueAt_165 ?_
          refine aw_if_ne (tg := 173) dX9_dueAt_167 (by decide) (by decide) (fun c167 => absurd c167 (by decide)) (fun c167 => ?_)
          refine aw_goto (tg := 57) dX9_dueAt_170 (by decide) ?_
          refine aw_dk_11_2 ?_
          exact kend
        | succ q ih2 =>
          intro e g1
          have h9 := ih2 (e + 1) (by omega)
          have q9 := hb_nx_in G t k pt (LP m) (LE m) e
          refine aw_ild12 dX9_dueAt_68 ?_
          refine aw_ald0 dX9_dueAt_70 ?_
          refine aw_getf dX9_dueAt_71 hbf_X9_126 rfl rfl ?_
          refine aw_icmp_ge (tg := 152) dX9_dueAt_74 (by decide) (by constructor <;> omega) (by constructor <;> omega) (fun c74 => absurd c74 (by omega)) (fun c74 => ?_)
          refine aw_ald0 dX9_dueAt_77 ?_
          refine aw_ild12 dX9_dueAt_78 ?_
          refine aw_ild1 dX9_dueAt_80 ?_
          refine aw_ild2 dX9_dueAt_81 ?_
          refine aw_ild4 dX9_dueAt_82 ?_
          refine aw_V4v dX9_dueAt_84 (c_mIsOf (by omega) (by constructor <;> omega) (by constructor <;> omega) ip hG) rfl rfl hbY_X9_isOf hbm_X9_196 hbi_X9_isOf hbe_X9_X9_isOf (Nat.le_of_ble_eq_true rfl) ⟨by decide, by decide⟩ (by decide) (by decide) ?_
          refine aw_ifb_eq (tg := 146) dX9_dueAt_87 (by decide) (fun c87 => ?_) (fun c87 => ?_)
          · skip
            refine aw_iinc12 dX9_dueAt_146 (by decide) ?_
            refine aw_goto (tg := 68) dX9_dueAt_149 (by decide) ?_
            first | (rw [hb_nx_y (G := G) (t := t) (k := k) (pt := pt) (lp := LP m) (le := LE m) (e := e) ⟨⟨c87, c106⟩, Or.inl c115⟩] at h9; exact h9) | (rw [hb_nx_y (G := G) (t := t) (k := k) (pt := pt) (lp := LP m) (le := LE m) (e := e) ⟨⟨c87, c106⟩, Or.inr c139⟩] at h9; exact h9) | (rw [hb_nx_n (G := G) (t := t) (k := k) (pt := pt) (lp := LP m) (le := LE m) (e := e) (fun h8 => by first | exact c87 h8.1.1 | exact c106 h8.1.2 | (rcases h8.2 with h7 | h7; exact c115 h7; exact c139 h7))] at h9; exact h9)
          · skip
            refine aw_ald0 dX9_dueAt_90 ?_
            refine aw_getf dX9_dueAt_91 hbf_X9_65 rfl rfl ?_
            refine aw_ild12 dX9_dueAt_94 ?_
            refine aw_iald dX9_dueAt_96 rfl (by constructor <;> omega) (by decide) ?_
            refine aw_ild12 dX9_dueAt_97 ?_
            refine aw_ild8 dX9_dueAt_99 ?_
            refine aw_ild9 dX9_dueAt_101 ?_
            refine aw_S4v dX9_dueAt_103 (c_mIsAfter (hG _ _) (by constructor <;> omega) q2 q3) hbY_X9_isAfter hbm_X9_200 hbs_X9_isAfter (Nat.le_of_ble_eq_true rfl) ⟨by decide, by decide⟩ (by decide) (by decide) ?_
            refine aw_ifb_ne (tg := 112) dX9_dueAt_106 (by decide) (fun c106 => ?_) (fun c106 => ?_)
            · skip
              refine aw_ild11 dX9_dueAt_112 ?_
              refine aw_iconst dX9_dueAt_114 ?_
              refine aw_icmp_eq (tg := 142) dX9_dueAt_115 (by decide) (by constructor <;> omega) (by decide) (fun c115 => ?_) (fun c115 => ?_)
              · skip
                refine aw_ild12 dX9_dueAt_142 ?_
                refine aw_ist11 dX9_dueAt_144 (by decide) ?_
                refine aw_iinc12 dX9_dueAt_146 (by decide) ?_
                refine aw_goto (tg := 68) dX9_dueAt_149 (by decide) ?_
                first | (rw [hb_nx_y (G := G) (t := t) (k := k) (pt := pt) (lp := LP m) (le := LE m) (e := e) ⟨⟨c87, c106⟩, Or.inl c115⟩] at h9; exact h9) | (rw [hb_nx_y (G := G) (t := t) (k := k) (pt := pt) (lp := LP m) (le := LE m) (e := e) ⟨⟨c87, c106⟩, Or.inr c139⟩] at h9; exact h9) | (rw [hb_nx_n (G := G) (t := t) (k := k) (pt := pt) (lp := LP m) (le := LE m) (e := e) (fun h8 => by first | exact c87 h8.1.1 | exact c106 h8.1.2 | (rcases h8.2 with h7 | h7; exact c115 h7; exact c139 h7))] at h9; exact h9)
              · skip
                refine aw_ald0 dX9_dueAt_118 ?_
                refine aw_getf dX9_dueAt_119 hbf_X9_65 rfl rfl ?_
                refine aw_ild11 dX9_dueAt_122 ?_
                refine aw_iald dX9_dueAt_124 rfl (by constructor <;> omega) (by decide) ?_
                refine aw_ild11 dX9_dueAt_125 ?_
                refine aw_ald0 dX9_dueAt_127 ?_
                refine aw_getf dX9_dueAt_128 hbf_X9_65 rfl rfl ?_
                refine aw_ild12 dX9_dueAt_131 ?_
                refine aw_iald dX9_dueAt_133 rfl (by constructor <;> omega) (by decide) ?_
                refine aw_ild12 dX9_dueAt_134 ?_
                refine aw_S4v dX9_dueAt_136 (c_mIsAfter (hG _ _) (by constructor <;> omega) (hG _ _) (by constructor <;> omega)) hbY_X9_isAfter hbm_X9_200 hbs_X9_isAfter (Nat.le_of_ble_eq_true rfl) ⟨by decide, by decide⟩ (by decide) (by decide) ?_
                refine aw_ifb_eq (tg := 146) dX9_dueAt_139 (by decide) (fun c139 => ?_) (fun c139 => ?_)
                · skip
                  refine aw_iinc12 dX9_dueAt_146 (by decide) ?_
                  refine aw_goto (tg := 68) dX9_dueAt_149 (by decide) ?_
                  first | (rw [hb_nx_y (G := G) (t := t) (k := k) (pt := pt) (lp := LP m) (le := LE m) (e := e) ⟨⟨c87, c106⟩, Or.inl c115⟩] at h9; exact h9) | (rw [hb_nx_y (G := G) (t := t) (k := k) (pt := pt) (lp := LP m) (le := LE m) (e := e) ⟨⟨c87, c106⟩, Or.inr c139⟩] at h9; exact h9) | (rw [hb_nx_n (G := G) (t := t) (k := k) (pt := pt) (lp := LP m) (le := LE m) (e := e) (fun h8 => by first | exact c87 h8.1.1 | exact c106 h8.1.2 | (rcases h8.2 with h7 | h7; exact c115 h7; exact c139 h7))] at h9; exact h9)
                · skip
                  refine aw_ild12 dX9_dueAt_142 ?_
                  refine aw_ist11 dX9_dueAt_144 (by decide) ?_
                  refine aw_iinc12 dX9_dueAt_146 (by decide) ?_
                  refine aw_goto (tg := 68) dX9_dueAt_149 (by decide) ?_
                  first | (rw [hb_nx_y (G := G) (t := t) (k := k) (pt := pt) (lp := LP m) (le := LE m) (e := e) ⟨⟨c87, c106⟩, Or.inl c115⟩] at h9; exact h9) | (rw [hb_nx_y (G := G) (t := t) (k := k) (pt := pt) (lp := LP m) (le := LE m) (e := e) ⟨⟨c87, c106⟩, Or.inr c139⟩] at h9; exact h9) | (rw [hb_nx_n (G := G) (t := t) (k := k) (pt := pt) (lp := LP m) (le := LE m) (e := e) (fun h8 => by first | exact c87 h8.1.1 | exact c106 h8.1.2 | (rcases h8.2 with h7 | h7; exact c115 h7; exact c139 h7))] at h9; exact h9)
            · skip
              refine aw_goto (tg := 146) dX9_dueAt_109 (by decide) ?_
              refine aw_iinc12 dX9_dueAt_146 (by decide) ?_
              refine aw_goto (tg := 68) dX9_dueAt_149 (by decide) ?_
              first | (rw [hb_nx_y (G := G) (t := t) (k := k) (pt := pt) (lp := LP m) (le := LE m) (e := e) ⟨⟨c87, c106⟩, Or.inl c115⟩] at h9; exact h9) | (rw [hb_nx_y (G := G) (t := t) (k := k) (pt := pt) (lp := LP m) (le := LE m) (e := e) ⟨⟨c87, c106⟩, Or.inr c139⟩] at h9; exact h9) | (rw [hb_nx_n (G := G) (t := t) (k := k) (pt := pt) (lp := LP m) (le := LE m) (e := e) (fun h8 => by first | exact c87 h8.1.1 | exact c106 h8.1.2 | (rcases h8.2 with h7 | h7; exact c115 h7; exact c139 h7))] at h9; exact h9)
      refine aw_ild10 dX9_dueAt_57 ?_
      refine aw_if_eq (tg := 292) dX9_dueAt_59 (by decide) (by decide) (fun c59 => absurd c59 (by decide)) (fun c59 => ?_)
      refine aw_iconst dX9_dueAt_62 ?_
      refine aw_ipu11 dX9_dueAt_63 (by decide) ?_
      refine aw_iconst dX9_dueAt_65 ?_
      refine aw_ipu12 dX9_dueAt_66 (by decide) ?_
      exact in0 n 0 (by omega)
    | succ r ih =>
      intro j g0
      obtain ⟨q1, q2, q3, q4⟩ := hB j (by omega)
      obtain ⟨w1, w2, w3, w4, w5, w6, w7⟩ := hst j (by omega)
      have h9 := ih (j + 1) (by omega)
      have q8 := hb_nx_in G t k pt (LP j) (LE j) n
      rw [← w3] at w1 q8
      obtain ⟨p1, p2, p3, p4⟩ := hB (j + 1) (by omega)
      have in1 : ∀ (q e : Nat), e + q = n → hb_W l RX9 cX9_dueAt 14 (some .int) "dueAt" [] E z0 (hb_rm 1 0 0) σ0 (77 + na) (.inl (some (hb_i (DD m)))) (hb_w G F na) (77 + na) 0 0 68 [hb_r 47, hb_i t, hb_i k, hb_i 1, hb_i pt, hb_i (G 56 (3 * k + 1)), hb_i (DD j), hb_i (CN j), hb_i (LP j), hb_i (LE j), hb_i 1, hb_i (hb_nx G t k pt (LP j) (LE j) e), hb_i (e : Int)] [] (hb_w G F na) (77 + na) := by
        intro q
        induction q with
        | zero =>
          intro e g1
          have e9 : e = n := by omega
          subst e9
          rw [← w3]
          rcases w7 with ⟨v1, v2, v3⟩ | ⟨v1, v2, v3⟩
          · rcases q1 with q1 | q1
            · rw [q1, if_pos rfl] at v3
              refine aw_ild12 dX9_dueAt_68 ?_
              refine aw_ald0 dX9_dueAt_70 ?_
              refine aw_getf dX9_dueAt_71 hbf_X9_126 rfl rfl ?_
              refine aw_icmp_ge (tg := 152) dX9_dueAt_74 (by decide) (by constructor <;> omega) (by constructor <;> omega) (fun c74 => ?_) (fun c74 => absurd c74 (by omega))
              refine aw_ild11 dX9_dueAt_152 ?_
              refine aw_iconst dX9_dueAt_154 ?_
              refine aw_icmp_eq (tg := 162) dX9_dueAt_155 (by decide) (by constructor <;> omega) (by decide) (fun c155 => absurd c155 (by omega)) (fun c155 => ?_)
              refine aw_iconst dX9_dueAt_158 ?_
              refine aw_goto (tg := 163) dX9_dueAt_159 (by decide) ?_
              refine aw_ist10 dX9_dueAt_163 (by decide) ?_
              refine aw_ild10 dX9_dueAt_165 ?_
              refine aw_if_ne (tg := 173) dX9_dueAt_167 (by decide) (by decide) (fun c167 => ?_) (fun c167 => absurd c167 (by decide))
              refine aw_ald0 dX9_dueAt_173 ?_
              refine aw_getf dX9_dueAt_174 hbf_X9_65 rfl rfl ?_
              refine aw_ild11 dX9_dueAt_177 ?_
              refine aw_iald dX9_dueAt_179 rfl (by constructor <;> omega) (by decide) ?_
              refine aw_top (c9 := LP (j + 1)) (by rw [w2, w3]) ?_
              refine aw_ist8 dX9_dueAt_180 (by decide) ?_
              refine aw_ild11 dX9_dueAt_182 ?_
              refine aw_ist9 dX9_dueAt_184 (by decide) ?_
              refine aw_ald0 dX9_dueAt_186 ?_
              refine aw_getf dX9_dueAt_187 hbf_X9_55 rfl rfl ?_
              refine aw_ild11 dX9_dueAt_190 ?_
              refine aw_iald dX9_dueAt_192 rfl (by constructor <;> omega) (by decide) ?_
              refine aw_iconst dX9_dueAt_193 ?_
              refine aw_icmp_ne (tg := 224) dX9_dueAt_194 (by decide) (hG _ _) (by decide) (fun c194 => absurd c194 (by omega)) (fun c194 => ?_)
              refine aw_ild6 dX9_dueAt_197 ?_
              refine aw_ild7 dX9_dueAt_199 ?_
              refine aw_if_eq (tg := 208) dX9_dueAt_201 (by decide) (by constructor <;> omega) (fun c201 => ?_) (fun c201 => absurd c201 (by omega))
              refine aw_ald0 dX9_dueAt_208 ?_
              refine aw_ild11 dX9_dueAt_209 ?_
              refine aw_ild3 dX9_dueAt_211 ?_
              refine aw_V2v dX9_dueAt_212 (c_mAmount1 (by omega) w5 hG) rfl rfl hbY_X9_amount hbm_X9_203 hbi_X9_amount hbe_X9_X9_amount (Nat.le_of_ble_eq_true rfl) ⟨by decide, by decide⟩ (by decide) (by decide) ?_
              refine aw_iadd dX9_dueAt_215 ?_
              refine aw_ist6 dX9_dueAt_216 (by decide) ?_
              refine aw_iconst dX9_dueAt_218 ?_
              refine aw_ist7 dX9_dueAt_219 (by decide) ?_
              refine aw_goto (tg := 57) dX9_dueAt_221 (by decide) ?_
              refine aw_dk_11_2 ?_
              rw [v2, v3] at h9
              exact h9
            · rw [if_neg (by omega)] at v3
              refine aw_ild12 dX9_dueAt_68 ?_
              refine aw_ald0 dX9_dueAt_70 ?_
              refine aw_getf dX9_dueAt_71 hbf_X9_126 rfl rfl ?_
              refine aw_icmp_ge (tg := 152) dX9_dueAt_74 (by decide) (by constructor <;> omega) (by constructor <;> omega) (fun c74 => ?_) (fun c74 => absurd c74 (by omega))
              refine aw_ild11 dX9_dueAt_152 ?_
              refine aw_iconst dX9_dueAt_154 ?_
              refine aw_icmp_eq (tg := 162) dX9_dueAt_155 (by decide) (by constructor <;> omega) (by decide) (fun c155 => absurd c155 (by omega)) (fun c155 => ?_)
              refine aw_iconst dX9_dueAt_158 ?_
              refine aw_goto (tg := 163) dX9_dueAt_159 (by decide) ?_
              refine aw_ist10 dX9_dueAt_163 (by decide) ?_
              refine aw_ild10 dX9_dueAt_165 ?_
              refine aw_if_ne (tg := 173) dX9_dueAt_167 (by decide) (by decide) (fun c167 => ?_) (fun c167 => absurd c167 (by decide))
              refine aw_ald0 dX9_dueAt_173 ?_
              refine aw_getf dX9_dueAt_174 hbf_X9_65 rfl rfl ?_
              refine aw_ild11 dX9_dueAt_177 ?_
              refine aw_iald dX9_dueAt_179 rfl (by constructor <;> omega) (by decide) ?_
              refine aw_top (c9 := LP (j + 1)) (by rw [w2, w3]) ?_
              refine aw_ist8 dX9_dueAt_180 (by decide) ?_
              refine aw_ild11 dX9_dueAt_182 ?_
              refine aw_ist9 dX9_dueAt_184 (by decide) ?_
              refine aw_ald0 dX9_dueAt_186 ?_
              refine aw_getf dX9_dueAt_187 hbf_X9_55 rfl rfl ?_
              refine aw_ild11 dX9_dueAt_190 ?_
              refine aw_iald dX9_dueAt_192 rfl (by constructor <;> omega) (by decide) ?_
              refine aw_iconst dX9_dueAt_193 ?_
              refine aw_icmp_ne (tg := 224) dX9_dueAt_194 (by decide) (hG _ _) (by decide) (fun c194 => absurd c194 (by omega)) (fun c194 => ?_)
              refine aw_ild6 dX9_dueAt_197 ?_
              refine aw_ild7 dX9_dueAt_199 ?_
              refine aw_if_eq (tg := 208) dX9_dueAt_201 (by decide) (by constructor <;> omega) (fun c201 => absurd c201 (by omega)) (fun c201 => ?_)
              refine aw_iconst dX9_dueAt_204 ?_
              refine aw_goto (tg := 215) dX9_dueAt_205 (by decide) ?_
              refine aw_iadd dX9_dueAt_215 ?_
              refine aw_ist6 dX9_dueAt_216 (by decide) ?_
              refine aw_iconst dX9_dueAt_218 ?_
              refine aw_ist7 dX9_dueAt_219 (by decide) ?_
              refine aw_goto (tg := 57) dX9_dueAt_221 (by decide) ?_
              refine aw_dk_11_2 ?_
              rw [v2, v3] at h9
              exact h9
          · have v1 := v1
            refine aw_ild12 dX9_dueAt_68 ?_
            refine aw_ald0 dX9_dueAt_70 ?_
            refine aw_getf dX9_dueAt_71 hbf_X9_126 rfl rfl ?_
            refine aw_icmp_ge (tg := 152) dX9_dueAt_74 (by decide) (by constructor <;> omega) (by constructor <;> omega) (fun c74 => ?_) (fun c74 => absurd c74 (by omega))
            refine aw_ild11 dX9_dueAt_152 ?_
            refine aw_iconst dX9_dueAt_154 ?_
            refine aw_icmp_eq (tg := 162) dX9_dueAt_155 (by decide) (by constructor <;> omega) (by decide) (fun c155 => absurd c155 (by omega)) (fun c155 => ?_)
            refine aw_iconst dX9_dueAt_158 ?_
            refine aw_goto (tg := 163) dX9_dueAt_159 (by decide) ?_
            refine aw_ist10 dX9_dueAt_163 (by decide) ?_
            refine aw_ild10 dX9_dueAt_165 ?_
            refine aw_if_ne (tg := 173) dX9_dueAt_167 (by decide) (by decide) (fun c167 => ?_) (fun c167 => absurd c167 (by decide))
            refine aw_ald0 dX9_dueAt_173 ?_
            refine aw_getf dX9_dueAt_174 hbf_X9_65 rfl rfl ?_
            refine aw_ild11 dX9_dueAt_177 ?_
            refine aw_iald dX9_dueAt_179 rfl (by constructor <;> omega) (by decide) ?_
            refine aw_top (c9 := LP (j + 1)) (by rw [w2, w3]) ?_
            refine aw_ist8 dX9_dueAt_180 (by decide) ?_
            refine aw_ild11 dX9_dueAt_182 ?_
            refine aw_ist9 dX9_dueAt_184 (by decide) ?_
            refine aw_ald0 dX9_dueAt_186 ?_
            refine aw_getf dX9_dueAt_187 hbf_X9_55 rfl rfl ?_
            refine aw_ild11 dX9_dueAt_190 ?_
            refine aw_iald dX9_dueAt_192 rfl (by constructor <;> omega) (by decide) ?_
            refine aw_iconst dX9_dueAt_193 ?_
            refine aw_icmp_ne (tg := 224) dX9_dueAt_194 (by decide) (hG _ _) (by decide) (fun c194 => ?_) (fun c194 => absurd c194 (by omega))
            refine aw_iconst dX9_dueAt_224 ?_
            refine aw_ist7 dX9_dueAt_225 (by decide) ?_
            refine aw_ald0 dX9_dueAt_227 ?_
            refine aw_ild1 dX9_dueAt_228 ?_
            refine aw_ild3 dX9_dueAt_229 ?_
            refine aw_ild8 dX9_dueAt_230 ?_
            refine aw_V3v dX9_dueAt_232 (c_mCounterAt1 (by omega) p2 w4 hn hn2 hG) rfl rfl hbY_X9_counterAt hbm_X9_192 hbi_X9_counterAt hbe_X9_X9_counterAt (Nat.le_of_ble_eq_true rfl) ⟨by decide, by decide⟩ (by decide) (by decide) ?_
            refine aw_ist12 dX9_dueAt_235 (by decide) ?_
            refine aw_ild12 dX9_dueAt_237 ?_
            refine aw_ild6 dX9_dueAt_239 ?_
            refine aw_icmp_le (tg := 269) dX9_dueAt_241 (by decide) (by constructor <;> omega) (by constructor <;> omega) (fun c241 => ?_) (fun c241 => ?_)
            · skip
              refine aw_iconst dX9_dueAt_269 ?_
              refine aw_ipu13 dX9_dueAt_270 (by decide) ?_
              refine aw_ild13 dX9_dueAt_272 ?_
              refine aw_if_eq (tg := 282) dX9_dueAt_274 (by decide) (by decide) (fun c274 => ?_) (fun c274 => absurd c274 (by decide))
              refine aw_ild12 dX9_dueAt_282 ?_
              refine aw_ild5 dX9_dueAt_284 ?_
              refine aw_iadd dX9_dueAt_286 ?_
              refine aw_ist6 dX9_dueAt_287 (by decide) ?_
              refine aw_goto (tg := 57) dX9_dueAt_289 (by decide) ?_
              refine aw_dk_11_3 ?_
              rw [v2, v3] at h9
              first | (rw [if_pos ⟨by assumption, by assumption⟩] at h9; exact h9) | (rw [if_neg (fun h8 => by have a1 := h8.1; have a2 := h8.2; omega)] at h9; exact h9)
            · skip
              refine aw_ild12 dX9_dueAt_244 ?_
              refine aw_ild6 dX9_dueAt_246 ?_
              refine aw_isub dX9_dueAt_248 ?_
              refine aw_ild5 dX9_dueAt_249 ?_
              refine aw_ald0 dX9_dueAt_251 ?_
              refine aw_getf dX9_dueAt_252 hbf_X9_37 rfl rfl ?_
              refine aw_ild2 dX9_dueAt_255 ?_
              refine aw_iald dX9_dueAt_256 rfl (by constructor <;> omega) (by decide) ?_
              refine aw_imul dX9_dueAt_257 ?_
              refine aw_sipush dX9_dueAt_258 (by decide) ?_
              refine aw_idiv dX9_dueAt_261 (hb_m5 hiv htl).1 (by decide) (hb_m5 hiv htl).2 (by decide) ?_
              refine aw_icmp_gt (tg := 269) dX9_dueAt_262 (by decide) (by constructor <;> omega) (by have h8 := (hb_m5 hiv htl); constructor <;> omega) (fun c262 => ?_) (fun c262 => ?_)
              · skip
                refine aw_iconst dX9_dueAt_269 ?_
                refine aw_ipu13 dX9_dueAt_270 (by decide) ?_
                refine aw_ild13 dX9_dueAt_272 ?_
                refine aw_if_eq (tg := 282) dX9_dueAt_274 (by decide) (by decide) (fun c274 => ?_) (fun c274 => absurd c274 (by decide))
                refine aw_ild12 dX9_dueAt_282 ?_
                refine aw_ild5 dX9_dueAt_284 ?_
                refine aw_iadd dX9_dueAt_286 ?_
                refine aw_ist6 dX9_dueAt_287 (by decide) ?_
                refine aw_goto (tg := 57) dX9_dueAt_289 (by decide) ?_
                refine aw_dk_11_3 ?_
                rw [v2, v3] at h9
                first | (rw [if_pos ⟨by assumption, by assumption⟩] at h9; exact h9) | (rw [if_neg (fun h8 => by have a1 := h8.1; have a2 := h8.2; omega)] at h9; exact h9)
              · skip
                refine aw_iconst dX9_dueAt_265 ?_
                refine aw_goto (tg := 270) dX9_dueAt_266 (by decide) ?_
                refine aw_ipu13 dX9_dueAt_270 (by decide) ?_
                refine aw_ild13 dX9_dueAt_272 ?_
                refine aw_if_eq (tg := 282) dX9_dueAt_274 (by decide) (by decide) (fun c274 => absurd c274 (by decide)) (fun c274 => ?_)
                refine aw_ild6 dX9_dueAt_277 ?_
                refine aw_goto (tg := 284) dX9_dueAt_279 (by decide) ?_
                refine aw_ild5 dX9_dueAt_284 ?_
                refine aw_iadd dX9_dueAt_286 ?_
                refine aw_ist6 dX9_dueAt_287 (by decide) ?_
                refine aw_goto (tg := 57) dX9_dueAt_289 (by decide) ?_
                refine aw_dk_11_3 ?_
                rw [v2, v3] at h9
                first | (rw [if_pos ⟨by assumption, by assumption⟩] at h9; exact h9) | (rw [if_neg (fun h8 => by have a1 := h8.1; have a2 := h8.2; omega)] at h9; exact h9)
        | succ q ih2 =>
          intro e g1
          have h9 := ih2 (e + 1) (by omega)
          have q9 := hb_nx_in G t k pt (LP j) (LE j) e
          refine aw_ild12 dX9_dueAt_68 ?_
          refine aw_ald0 dX9_dueAt_70 ?_
          refine aw_getf dX9_dueAt_71 hbf_X9_126 rfl rfl ?_
          refine aw_icmp_ge (tg := 152) dX9_dueAt_74 (by decide) (by constructor <;> omega) (by constructor <;> omega) (fun c74 => absurd c74 (by omega)) (fun c74 => ?_)
          refine aw_ald0 dX9_dueAt_77 ?_
          refine aw_ild12 dX9_dueAt_78 ?_
          refine aw_ild1 dX9_dueAt_80 ?_
          refine aw_ild2 dX9_dueAt_81 ?_
          refine aw_ild4 dX9_dueAt_82 ?_
          refine aw_V4v dX9_dueAt_84 (c_mIsOf (by omega) (by constructor <;> omega) (by constructor <;> omega) ip hG) rfl rfl hbY_X9_isOf hbm_X9_196 hbi_X9_isOf hbe_X9_X9_isOf (Nat.le_of_ble_eq_true rfl) ⟨by decide, by decide⟩ (by decide) (by decide) ?_
          refine aw_ifb_eq (tg := 146) dX9_dueAt_87 (by decide) (fun c87 => ?_) (fun c87 => ?_)
          · skip
            refine aw_iinc12 dX9_dueAt_146 (by decide) ?_
            refine aw_goto (tg := 68) dX9_dueAt_149 (by decide) ?_
            first | (rw [hb_nx_y (G := G) (t := t) (k := k) (pt := pt) (lp := LP j) (le := LE j) (e := e) ⟨⟨c87, c106⟩, Or.inl c115⟩] at h9; exact h9) | (rw [hb_nx_y (G := G) (t := t) (k := k) (pt := pt) (lp := LP j) (le := LE j) (e := e) ⟨⟨c87, c106⟩, Or.inr c139⟩] at h9; exact h9) | (rw [hb_nx_n (G := G) (t := t) (k := k) (pt := pt) (lp := LP j) (le := LE j) (e := e) (fun h8 => by first | exact c87 h8.1.1 | exact c106 h8.1.2 | (rcases h8.2 with h7 | h7; exact c115 h7; exact c139 h7))] at h9; exact h9)
          · skip
            refine aw_ald0 dX9_dueAt_90 ?_
            refine aw_getf dX9_dueAt_91 hbf_X9_65 rfl rfl ?_
            refine aw_ild12 dX9_dueAt_94 ?_
            refine aw_iald dX9_dueAt_96 rfl (by constructor <;> omega) (by decide) ?_
            refine aw_ild12 dX9_dueAt_97 ?_
            refine aw_ild8 dX9_dueAt_99 ?_
            refine aw_ild9 dX9_dueAt_101 ?_
            refine aw_S4v dX9_dueAt_103 (c_mIsAfter (hG _ _) (by constructor <;> omega) q2 q3) hbY_X9_isAfter hbm_X9_200 hbs_X9_isAfter (Nat.le_of_ble_eq_true rfl) ⟨by decide, by decide⟩ (by decide) (by decide) ?_
            refine aw_ifb_ne (tg := 112) dX9_dueAt_106 (by decide) (fun c106 => ?_) (fun c106 => ?_)
            · skip
              refine aw_ild11 dX9_dueAt_112 ?_
              refine aw_iconst dX9_dueAt_114 ?_
              refine aw_icmp_eq (tg := 142) dX9_dueAt_115 (by decide) (by constructor <;> omega) (by decide) (fun c115 => ?_) (fun c115 => ?_)
              · skip
                refine aw_ild12 dX9_dueAt_142 ?_
                refine aw_ist11 dX9_dueAt_144 (by decide) ?_
                refine aw_iinc12 dX9_dueAt_146 (by decide) ?_
                refine aw_goto (tg := 68) dX9_dueAt_149 (by decide) ?_
                first | (rw [hb_nx_y (G := G) (t := t) (k := k) (pt := pt) (lp := LP j) (le := LE j) (e := e) ⟨⟨c87, c106⟩, Or.inl c115⟩] at h9; exact h9) | (rw [hb_nx_y (G := G) (t := t) (k := k) (pt := pt) (lp := LP j) (le := LE j) (e := e) ⟨⟨c87, c106⟩, Or.inr c139⟩] at h9; exact h9) | (rw [hb_nx_n (G := G) (t := t) (k := k) (pt := pt) (lp := LP j) (le := LE j) (e := e) (fun h8 => by first | exact c87 h8.1.1 | exact c106 h8.1.2 | (rcases h8.2 with h7 | h7; exact c115 h7; exact c139 h7))] at h9; exact h9)
              · skip
                refine aw_ald0 dX9_dueAt_118 ?_
                refine aw_getf dX9_dueAt_119 hbf_X9_65 rfl rfl ?_
                refine aw_ild11 dX9_dueAt_122 ?_
                refine aw_iald dX9_dueAt_124 rfl (by constructor <;> omega) (by decide) ?_
                refine aw_ild11 dX9_dueAt_125 ?_
                refine aw_ald0 dX9_dueAt_127 ?_
                refine aw_getf dX9_dueAt_128 hbf_X9_65 rfl rfl ?_
                refine aw_ild12 dX9_dueAt_131 ?_
                refine aw_iald dX9_dueAt_133 rfl (by constructor <;> omega) (by decide) ?_
                refine aw_ild12 dX9_dueAt_134 ?_
                refine aw_S4v dX9_dueAt_136 (c_mIsAfter (hG _ _) (by constructor <;> omega) (hG _ _) (by constructor <;> omega)) hbY_X9_isAfter hbm_X9_200 hbs_X9_isAfter (Nat.le_of_ble_eq_true rfl) ⟨by decide, by decide⟩ (by decide) (by decide) ?_
                refine aw_ifb_eq (tg := 146) dX9_dueAt_139 (by decide) (fun c139 => ?_) (fun c139 => ?_)
                · skip
                  refine aw_iinc12 dX9_dueAt_146 (by decide) ?_
                  refine aw_goto (tg := 68) dX9_dueAt_149 (by decide) ?_
                  first | (rw [hb_nx_y (G := G) (t := t) (k := k) (pt := pt) (lp := LP j) (le := LE j) (e := e) ⟨⟨c87, c106⟩, Or.inl c115⟩] at h9; exact h9) | (rw [hb_nx_y (G := G) (t := t) (k := k) (pt := pt) (lp := LP j) (le := LE j) (e := e) ⟨⟨c87, c106⟩, Or.inr c139⟩] at h9; exact h9) | (rw [hb_nx_n (G := G) (t := t) (k := k) (pt := pt) (lp := LP j) (le := LE j) (e := e) (fun h8 => by first | exact c87 h8.1.1 | exact c106 h8.1.2 | (rcases h8.2 with h7 | h7; exact c115 h7; exact c139 h7))] at h9; exact h9)
                · skip
                  refine aw_ild12 dX9_dueAt_142 ?_
                  refine aw_ist11 dX9_dueAt_144 (by decide) ?_
                  refine aw_iinc12 dX9_dueAt_146 (by decide) ?_
                  refine aw_goto (tg := 68) dX9_dueAt_149 (by decide) ?_
                  first | (rw [hb_nx_y (G := G) (t := t) (k := k) (pt := pt) (lp := LP j) (le := LE j) (e := e) ⟨⟨c87, c106⟩, Or.inl c115⟩] at h9; exact h9) | (rw [hb_nx_y (G := G) (t := t) (k := k) (pt := pt) (lp := LP j) (le := LE j) (e := e) ⟨⟨c87, c106⟩, Or.inr c139⟩] at h9; exact h9) | (rw [hb_nx_n (G := G) (t := t) (k := k) (pt := pt) (lp := LP j) (le := LE j) (e := e) (fun h8 => by first | exact c87 h8.1.1 | exact c106 h8.1.2 | (rcases h8.2 with h7 | h7; exact c115 h7; exact c139 h7))] at h9; exact h9)
            · skip
              refine aw_goto (tg := 146) dX9_dueAt_109 (by decide) ?_
              refine aw_iinc12 dX9_dueAt_146 (by decide) ?_
              refine aw_goto (tg := 68) dX9_dueAt_149 (by decide) ?_
              first | (rw [hb_nx_y (G := G) (t := t) (k := k) (pt := pt) (lp := LP j) (le := LE j) (e := e) ⟨⟨c87, c106⟩, Or.inl c115⟩] at h9; exact h9) | (rw [hb_nx_y (G := G) (t := t) (k := k) (pt := pt) (lp := LP j) (le := LE j) (e := e) ⟨⟨c87, c106⟩, Or.inr c139⟩] at h9; exact h9) | (rw [hb_nx_n (G := G) (t := t) (k := k) (pt := pt) (lp := LP j) (le := LE j) (e := e) (fun h8 => by first | exact c87 h8.1.1 | exact c106 h8.1.2 | (rcases h8.2 with h7 | h7; exact c115 h7; exact c139 h7))] at h9; exact h9)
      refine aw_ild10 dX9_dueAt_57 ?_
      refine aw_if_eq (tg := 292) dX9_dueAt_59 (by decide) (by decide) (fun c59 => absurd c59 (by decide)) (fun c59 => ?_)
      refine aw_iconst dX9_dueAt_62 ?_
      refine aw_ipu11 dX9_dueAt_63 (by decide) ?_
      refine aw_iconst dX9_dueAt_65 ?_
      refine aw_ipu12 dX9_dueAt_66 (by decide) ?_
      exact in1 n 0 (by omega)
  have h9 := key m 0 (by omega)
  rw [hz.1, hz.2.1, hz.2.2, h0] at h9
  refine aw_ald0 dX9_dueAt_0 ?_
  refine aw_getf dX9_dueAt_1 hbf_X9_34 rfl rfl ?_
  refine aw_iconst dX9_dueAt_4 ?_
  refine aw_ild2 dX9_dueAt_5 ?_
  refine aw_imul dX9_dueAt_6 ?_
  refine aw_ild3 dX9_dueAt_7 ?_
  refine aw_iadd dX9_dueAt_8 ?_
  refine aw_iald dX9_dueAt_9 rfl (by constructor <;> omega) (by decide) ?_
  refine aw_ipu5 dX9_dueAt_10 (by decide) ?_
  refine aw_ild5 dX9_dueAt_12 ?_
  refine aw_ild3 dX9_dueAt_14 ?_
  refine aw_if_ne (tg := 27) dX9_dueAt_15 (by decide) (by decide) (fun c15 => ?_) (fun c15 => absurd c15 (by decide))
  refine aw_ild3 dX9_dueAt_27 ?_
  refine aw_iconst dX9_dueAt_28 ?_
  refine aw_icmp_ne (tg := 41) dX9_dueAt_29 (by decide) (by decide) (by decide) (fun c29 => absurd c29 (by decide)) (fun c29 => ?_)
  refine aw_ald0 dX9_dueAt_32 ?_
  refine aw_getf dX9_dueAt_33 hbf_X9_25 rfl rfl ?_
  refine aw_ild1 dX9_dueAt_36 ?_
  refine aw_iald dX9_dueAt_37 rfl (by constructor <;> omega) (by decide) ?_
  refine aw_goto (tg := 42) dX9_dueAt_38 (by decide) ?_
  refine aw_iadd dX9_dueAt_42 ?_
  refine aw_ipu6 dX9_dueAt_43 (by decide) ?_
  refine aw_iconst dX9_dueAt_45 ?_
  refine aw_ipu7 dX9_dueAt_46 (by decide) ?_
  refine aw_iconst dX9_dueAt_48 ?_
  refine aw_ipu8 dX9_dueAt_49 (by decide) ?_
  refine aw_iconst dX9_dueAt_51 ?_
  refine aw_ipu9 dX9_dueAt_52 (by decide) ?_
  refine aw_iconst dX9_dueAt_54 ?_
  refine aw_ipu10 dX9_dueAt_55 (by decide) ?_
  exact h9
set_option maxRecDepth 20000 in
set_option maxHeartbeats 1000000 in
theorem c_mDueAt2 {l : Launch} {G : hb_G} {F : hb_F} {na : Nat} {t k pt : Int} {n m : Nat} {DD CN LP LE : Nat → Int} (ht : 0 ≤ t ∧ t < 40) (hk : 0 ≤ k ∧ k < 16) (ip : hb_in pt) (hn : G 47 17 = n) (hn2 : n ≤ 200) (hiv : 0 ≤ G 56 (3 * k + 2) ∧ G 56 (3 * k + 2) ≤ 100000) (htl : 0 ≤ G 57 k ∧ G 57 k ≤ 500) (h0 : DD 0 = G 56 (3 * k + 2) + 0) (hds : hb_ds G t k 2 pt n m DD CN LP LE) (hG : hb_rg G) : hb_M l yX9_dueAt cX9_dueAt 14 (some .int) 1 0 0 [hb_r 47, hb_i t, hb_i k, hb_i 2, hb_i pt] (hb_w G F na) (77 + na) (.inl (some (hb_i (DD m)))) (hb_w G F na) (77 + na) := by
  refine hb_M_in rfl rfl (by decide) rfl (Nat.le_of_ble_eq_true rfl) ?_
  intro E z0 σ0
  obtain ⟨hz, hB, hE, hst⟩ := hds
  have kend : hb_W l RX9 cX9_dueAt 14 (some .int) "dueAt" [] E z0 (hb_rm 1 0 0) σ0 (77 + na) (.inl (some (hb_i (DD m)))) (hb_w G F na) (77 + na) 0 0 57 [hb_r 47, hb_i t, hb_i k, hb_i 2, hb_i pt, hb_i (G 56 (3 * k + 2)), hb_i (DD m), hb_i (CN m), hb_i (LP m), hb_i (LE m), hb_i 0] [] (hb_w G F na) (77 + na) := by
    refine aw_ild10 dX9_dueAt_57 ?_
    refine aw_if_eq (tg := 292) dX9_dueAt_59 (by decide) (by decide) (fun c59 => ?_) (fun c59 => absurd c59 (by decide))
    refine aw_ild6 dX9_dueAt_292 ?_
    exact aw_iret dX9_dueAt_294 rfl (by rfl) rfl rfl (by decide) (by decide)
  have key : ∀ (r j : Nat), j + r = m → hb_W l RX9 cX9_dueAt 14 (some .int) "dueAt" [] E z0 (hb_rm 1 0 0) σ0 (77 + na) (.inl (some (hb_i (DD m)))) (hb_w G F na) (77 + na) 0 0 57 [hb_r 47, hb_i t, hb_i k, hb_i 2, hb_i pt, hb_i (G 56 (3 * k + 2)), hb_i (DD j), hb_i (CN j), hb_i (LP j), hb_i (LE j), hb_i 1] [] (hb_w G F na) (77 + na) := by
    intro r
    induction r with
    | zero =>
      intro j g0
      have e9 : m = j := by omega
      subst e9
      obtain ⟨q1, q2, q3, q4⟩ := hB m (by omega)
      have w3 := hE
      have in0 : ∀ (q e : Nat), e + q = n → hb_W l RX9 cX9_dueAt 14 (some .int) "dueAt" [] E z0 (hb_rm 1 0 0) σ0 (77 + na) (.inl (some (hb_i (DD m)))) (hb_w G F na) (77 + na) 0 0 68 [hb_r 47, hb_i t, hb_i k, hb_i 2, hb_i pt, hb_i (G 56 (3 * k + 2)), hb_i (DD m), hb_i (CN m), hb_i (LP m), hb_i (LE m), hb_i 1, hb_i (hb_nx G t k pt (LP m) (LE m) e), hb_i (e : Int)] [] (hb_w G F na) (77 + na) := by
        intro q
        induction q with
        | zero =>
          intro e g1
          have e9 : e = n := by omega
          subst e9
          refine aw_ild12 dX9_dueAt_68 ?_
          refine aw_ald0 dX9_dueAt_70 ?_
          refine aw_getf dX9_dueAt_71 hbf_X9_126 rfl rfl ?_
          refine aw_icmp_ge (tg := 152) dX9_dueAt_74 (by decide) (by constructor <;> omega) (by constructor <;> omega) (fun c74 => ?_) (fun c74 => absurd c74 (by omega))
          refine aw_ild11 dX9_dueAt_152 ?_
          refine aw_iconst dX9_dueAt_154 ?_
          refine aw_icmp_eq (tg := 162) dX9_dueAt_155 (by decide) (by constructor <;> omega) (by decide) (fun c155 => ?_) (fun c155 => absurd c155 (by omega))
          refine aw_iconst dX9_dueAt_162 ?_
          refine aw_ist10 dX9_dueAt_163 (by decide) ?_
          refine aw_ild10 dX9_dueAt_165 ?_
          refine aw_if_ne (tg := 173) dX9_dueAt_167 (by decide) (by decide) (fun c167 => absurd c167 (by decide)) (fun c167 => ?_)
          refine aw_goto (tg := 57) dX9_dueAt_170 (by decide) ?_
          refine aw_dk_11_2 ?_
          exact kend
        | succ q ih2 =>
          intro e g1
          have h9 := ih2 (e + 1) (by omega)
          have q9 := hb_nx_in G t k pt (LP m) (LE m) e
          refine aw_ild12 dX9_dueAt_68 ?_
          refine aw_ald0 dX9_dueAt_70 ?_
          refine aw_getf dX9_dueAt_71 hbf_X9_126 rfl rfl ?_
          refine aw_icmp_ge (tg := 152) dX9_dueAt_74 (by decide) (by constructor <;> omega) (by constructor <;> omega) (fun c74 => absurd c74 (by omega)) (fun c74 => ?_)
          refine aw_ald0 dX9_dueAt_77 ?_
          refine aw_ild12 dX9_dueAt_78 ?_
          refine aw_ild1 dX9_dueAt_80 ?_
          refine aw_ild2 dX9_dueAt_81 ?_
          refine aw_ild4 dX9_dueAt_82 ?_
          refine aw_V4v dX9_dueAt_84 (c_mIsOf (by omega) (by constructor <;> omega) (by constructor <;> omega) ip hG) rfl rfl hbY_X9_isOf hbm_X9_196 hbi_X9_isOf hbe_X9_X9_isOf (Nat.le_of_ble_eq_true rfl) ⟨by decide, by decide⟩ (by decide) (by decide) ?_
          refine aw_ifb_eq (tg := 146) dX9_dueAt_87 (by decide) (fun c87 => ?_) (fun c87 => ?_)
          · skip
            refine aw_iinc12 dX9_dueAt_146 (by decide) ?_
            refine aw_goto (tg := 68) dX9_dueAt_149 (by decide) ?_
            first | (rw [hb_nx_y (G := G) (t := t) (k := k) (pt := pt) (lp := LP m) (le := LE m) (e := e) ⟨⟨c87, c106⟩, Or.inl c115⟩] at h9; exact h9) | (rw [hb_nx_y (G := G) (t := t) (k := k) (pt := pt) (lp := LP m) (le := LE m) (e := e) ⟨⟨c87, c106⟩, Or.inr c139⟩] at h9; exact h9) | (rw [hb_nx_n (G := G) (t := t) (k := k) (pt := pt) (lp := LP m) (le := LE m) (e := e) (fun h8 => by first | exact c87 h8.1.1 | exact c106 h8.1.2 | (rcases h8.2 with h7 | h7; exact c115 h7; exact c139 h7))] at h9; exact h9)
          · skip
            refine aw_ald0 dX9_dueAt_90 ?_
            refine aw_getf dX9_dueAt_91 hbf_X9_65 rfl rfl ?_
            refine aw_ild12 dX9_dueAt_94 ?_
            refine aw_iald dX9_dueAt_96 rfl (by constructor <;> omega) (by decide) ?_
            refine aw_ild12 dX9_dueAt_97 ?_
            refine aw_ild8 dX9_dueAt_99 ?_
            refine aw_ild9 dX9_dueAt_101 ?_
            refine aw_S4v dX9_dueAt_103 (c_mIsAfter (hG _ _) (by constructor <;> omega) q2 q3) hbY_X9_isAfter hbm_X9_200 hbs_X9_isAfter (Nat.le_of_ble_eq_true rfl) ⟨by decide, by decide⟩ (by decide) (by decide) ?_
            refine aw_ifb_ne (tg := 112) dX9_dueAt_106 (by decide) (fun c106 => ?_) (fun c106 => ?_)
            · skip
              refine aw_ild11 dX9_dueAt_112 ?_
              refine aw_iconst dX9_dueAt_114 ?_
              refine aw_icmp_eq (tg := 142) dX9_dueAt_115 (by decide) (by constructor <;> omega) (by decide) (fun c115 => ?_) (fun c115 => ?_)
              · skip
                refine aw_ild12 dX9_dueAt_142 ?_
                refine aw_ist11 dX9_dueAt_144 (by decide) ?_
                refine aw_iinc12 dX9_dueAt_146 (by decide) ?_
                refine aw_goto (tg := 68) dX9_dueAt_149 (by decide) ?_
                first | (rw [hb_nx_y (G := G) (t := t) (k := k) (pt := pt) (lp := LP m) (le := LE m) (e := e) ⟨⟨c87, c106⟩, Or.inl c115⟩] at h9; exact h9) | (rw [hb_nx_y (G := G) (t := t) (k := k) (pt := pt) (lp := LP m) (le := LE m) (e := e) ⟨⟨c87, c106⟩, Or.inr c139⟩] at h9; exact h9) | (rw [hb_nx_n (G := G) (t := t) (k := k) (pt := pt) (lp := LP m) (le := LE m) (e := e) (fun h8 => by first | exact c87 h8.1.1 | exact c106 h8.1.2 | (rcases h8.2 with h7 | h7; exact c115 h7; exact c139 h7))] at h9; exact h9)
              · skip
                refine aw_ald0 dX9_dueAt_118 ?_
                refine aw_getf dX9_dueAt_119 hbf_X9_65 rfl rfl ?_
                refine aw_ild11 dX9_dueAt_122 ?_
                refine aw_iald dX9_dueAt_124 rfl (by constructor <;> omega) (by decide) ?_
                refine aw_ild11 dX9_dueAt_125 ?_
                refine aw_ald0 dX9_dueAt_127 ?_
                refine aw_getf dX9_dueAt_128 hbf_X9_65 rfl rfl ?_
                refine aw_ild12 dX9_dueAt_131 ?_
                refine aw_iald dX9_dueAt_133 rfl (by constructor <;> omega) (by decide) ?_
                refine aw_ild12 dX9_dueAt_134 ?_
                refine aw_S4v dX9_dueAt_136 (c_mIsAfter (hG _ _) (by constructor <;> omega) (hG _ _) (by constructor <;> omega)) hbY_X9_isAfter hbm_X9_200 hbs_X9_isAfter (Nat.le_of_ble_eq_true rfl) ⟨by decide, by decide⟩ (by decide) (by decide) ?_
                refine aw_ifb_eq (tg := 146) dX9_dueAt_139 (by decide) (fun c139 => ?_) (fun c139 => ?_)
                · skip
                  refine aw_iinc12 dX9_dueAt_146 (by decide) ?_
                  refine aw_goto (tg := 68) dX9_dueAt_149 (by decide) ?_
                  first | (rw [hb_nx_y (G := G) (t := t) (k := k) (pt := pt) (lp := LP m) (le := LE m) (e := e) ⟨⟨c87, c106⟩, Or.inl c115⟩] at h9; exact h9) | (rw [hb_nx_y (G := G) (t := t) (k := k) (pt := pt) (lp := LP m) (le := LE m) (e := e) ⟨⟨c87, c106⟩, Or.inr c139⟩] at h9; exact h9) | (rw [hb_nx_n (G := G) (t := t) (k := k) (pt := pt) (lp := LP m) (le := LE m) (e := e) (fun h8 => by first | exact c87 h8.1.1 | exact c106 h8.1.2 | (rcases h8.2 with h7 | h7; exact c115 h7; exact c139 h7))] at h9; exact h9)
                · skip
                  refine aw_ild12 dX9_dueAt_142 ?_
                  refine aw_ist11 dX9_dueAt_144 (by decide) ?_
                  refine aw_iinc12 dX9_dueAt_146 (by decide) ?_
                  refine aw_goto (tg := 68) dX9_dueAt_149 (by decide) ?_
                  first | (rw [hb_nx_y (G := G) (t := t) (k := k) (pt := pt) (lp := LP m) (le := LE m) (e := e) ⟨⟨c87, c106⟩, Or.inl c115⟩] at h9; exact h9) | (rw [hb_nx_y (G := G) (t := t) (k := k) (pt := pt) (lp := LP m) (le := LE m) (e := e) ⟨⟨c87, c106⟩, Or.inr c139⟩] at h9; exact h9) | (rw [hb_nx_n (G := G) (t := t) (k := k) (pt := pt) (lp := LP m) (le := LE m) (e := e) (fun h8 => by first | exact c87 h8.1.1 | exact c106 h8.1.2 | (rcases h8.2 with h7 | h7; exact c115 h7; exact c139 h7))] at h9; exact h9)
            · skip
              refine aw_goto (tg := 146) dX9_dueAt_109 (by decide) ?_
              refine aw_iinc12 dX9_dueAt_146 (by decide) ?_
              refine aw_goto (tg := 68) dX9_dueAt_149 (by decide) ?_
              first | (rw [hb_nx_y (G := G) (t := t) (k := k) (pt := pt) (lp := LP m) (le := LE m) (e := e) ⟨⟨c87, c106⟩, Or.inl c115⟩] at h9; exact h9) | (rw [hb_nx_y (G := G) (t := t) (k := k) (pt := pt) (lp := LP m) (le := LE m) (e := e) ⟨⟨c87, c106⟩, Or.inr c139⟩] at h9; exact h9) | (rw [hb_nx_n (G := G) (t := t) (k := k) (pt := pt) (lp := LP m) (le := LE m) (e := e) (fun h8 => by first | exact c87 h8.1.1 | exact c106 h8.1.2 | (rcases h8.2 with h7 | h7; exact c115 h7; exact c139 h7))] at h9; exact h9)
      refine aw_ild10 dX9_dueAt_57 ?_
      refine aw_if_eq (tg := 292) dX9_dueAt_59 (by decide) (by decide) (fun c59 => absurd c59 (by decide)) (fun c59 => ?_)
      refine aw_iconst dX9_dueAt_62 ?_
      refine aw_ipu11 dX9_dueAt_63 (by decide) ?_
      refine aw_iconst dX9_dueAt_65 ?_
      refine aw_ipu12 dX9_dueAt_66 (by decide) ?_
      exact in0 n 0 (by omega)
    | succ r ih =>
      intro j g0
      obtain ⟨q1, q2, q3, q4⟩ := hB j (by omega)
      obtain ⟨w1, w2, w3, w4, w5, w6, w7⟩ := hst j (by omega)
      have h9 := ih (j + 1) (by omega)
      have q8 := hb_nx_in G t k pt (LP j) (LE j) n
      rw [← w3] at w1 q8
      obtain ⟨p1, p2, p3, p4⟩ := hB (j + 1) (by omega)
      have in1 : ∀ (q e : Nat), e + q = n → hb_W l RX9 cX9_dueAt 14 (some .int) "dueAt" [] E z0 (hb_rm 1 0 0) σ0 (77 + na) (.inl (some (hb_i (DD m)))) (hb_w G F na) (77 + na) 0 0 68 [hb_r 47, hb_i t, hb_i k, hb_i 2, hb_i pt, hb_i (G 56 (3 * k + 2)), hb_i (DD j), hb_i (CN j), hb_i (LP j), hb_i (LE j), hb_i 1, hb_i (hb_nx G t k pt (LP j) (LE j) e), hb_i (e : Int)] [] (hb_w G F na) (77 + na) := by
        intro q
        induction q with
        | zero =>
          intro e g1
          have e9 : e = n := by omega
          subst e9
          rw [← w3]
          rcases w7 with ⟨v1, v2, v3⟩ | ⟨v1, v2, v3⟩
          · rcases q1 with q1 | q1
            · rw [q1, if_pos rfl] at v3
              refine aw_ild12 dX9_dueAt_68 ?_
              refine aw_ald0 dX9_dueAt_70 ?_
              refine aw_getf dX9_dueAt_71 hbf_X9_126 rfl rfl ?_
              refine aw_icmp_ge (tg := 152) dX9_dueAt_74 (by decide) (by constructor <;> omega) (by constructor <;> omega) (fun c74 => ?_) (fun c74 => absurd c74 (by omega))
              refine aw_ild11 dX9_dueAt_152 ?_
              refine aw_iconst dX9_dueAt_154 ?_
              refine aw_icmp_eq (tg := 162) dX9_dueAt_155 (by decide) (by constructor <;> omega) (by decide) (fun c155 => absurd c155 (by omega)) (fun c155 => ?_)
              refine aw_iconst dX9_dueAt_158 ?_
              refine aw_goto (tg := 163) dX9_dueAt_159 (by decide) ?_
              refine aw_ist10 dX9_dueAt_163 (by decide) ?_
              refine aw_ild10 dX9_dueAt_165 ?_
              refine aw_if_ne (tg := 173) dX9_dueAt_167 (by decide) (by decide) (fun c167 => ?_) (fun c167 => absurd c167 (by decide))
              refine aw_ald0 dX9_dueAt_173 ?_
              refine aw_getf dX9_dueAt_174 hbf_X9_65 rfl rfl ?_
              refine aw_ild11 dX9_dueAt_177 ?_
              refine aw_iald dX9_dueAt_179 rfl (by constructor <;> omega) (by decide) ?_
              refine aw_top (c9 := LP (j + 1)) (by rw [w2, w3]) ?_
              refine aw_ist8 dX9_dueAt_180 (by decide) ?_
              refine aw_ild11 dX9_dueAt_182 ?_
              refine aw_ist9 dX9_dueAt_184 (by decide) ?_
              refine aw_ald0 dX9_dueAt_186 ?_
              refine aw_getf dX9_dueAt_187 hbf_X9_55 rfl rfl ?_
              refine aw_ild11 dX9_dueAt_190 ?_
              refine aw_iald dX9_dueAt_192 rfl (by constructor <;> omega) (by decide) ?_
              refine aw_iconst dX9_dueAt_193 ?_
              refine aw_icmp_ne (tg := 224) dX9_dueAt_194 (by decide) (hG _ _) (by decide) (fun c194 => absurd c194 (by omega)) (fun c194 => ?_)
              refine aw_ild6 dX9_dueAt_197 ?_
              refine aw_ild7 dX9_dueAt_199 ?_
              refine aw_if_eq (tg := 208) dX9_dueAt_201 (by decide) (by constructor <;> omega) (fun c201 => ?_) (fun c201 => absurd c201 (by omega))
              refine aw_ald0 dX9_dueAt_208 ?_
              refine aw_ild11 dX9_dueAt_209 ?_
              refine aw_ild3 dX9_dueAt_211 ?_
              refine aw_V2v dX9_dueAt_212 (c_mAmount2 (by omega) w5 hG) rfl rfl hbY_X9_amount hbm_X9_203 hbi_X9_amount hbe_X9_X9_amount (Nat.le_of_ble_eq_true rfl) ⟨by decide, by decide⟩ (by decide) (by decide) ?_
              refine aw_iadd dX9_dueAt_215 ?_
              refine aw_ist6 dX9_dueAt_216 (by decide) ?_
              refine aw_iconst dX9_dueAt_218 ?_
              refine aw_ist7 dX9_dueAt_219 (by decide) ?_
              refine aw_goto (tg := 57) dX9_dueAt_221 (by decide) ?_
              refine aw_dk_11_2 ?_
              rw [v2, v3] at h9
              exact h9
            · rw [if_neg (by omega)] at v3
              refine aw_ild12 dX9_dueAt_68 ?_
              refine aw_ald0 dX9_dueAt_70 ?_
              refine aw_getf dX9_dueAt_71 hbf_X9_126 rfl rfl ?_
              refine aw_icmp_ge (tg := 152) dX9_dueAt_74 (by decide) (by constructor <;> omega) (by constructor <;> omega) (fun c74 => ?_) (fun c74 => absurd c74 (by omega))
              refine aw_ild11 dX9_dueAt_152 ?_
              refine aw_iconst dX9_dueAt_154 ?_
              refine aw_icmp_eq (tg := 162) dX9_dueAt_155 (by decide) (by constructor <;> omega) (by decide) (fun c155 => absurd c155 (by omega)) (fun c155 => ?_)
              refine aw_iconst dX9_dueAt_158 ?_
              refine aw_goto (tg := 163) dX9_dueAt_159 (by decide) ?_
              refine aw_ist10 dX9_dueAt_163 (by decide) ?_
              refine aw_ild10 dX9_dueAt_165 ?_
              refine aw_if_ne (tg := 173) dX9_dueAt_167 (by decide) (by decide) (fun c167 => ?_) (fun c167 => absurd c167 (by decide))
              refine aw_ald0 dX9_dueAt_173 ?_
              refine aw_getf dX9_dueAt_174 hbf_X9_65 rfl rfl ?_
              refine aw_ild11 dX9_dueAt_177 ?_
              refine aw_iald dX9_dueAt_179 rfl (by constructor <;> omega) (by decide) ?_
              refine aw_top (c9 := LP (j + 1)) (by rw [w2, w3]) ?_
              refine aw_ist8 dX9_dueAt_180 (by decide) ?_
              refine aw_ild11 dX9_dueAt_182 ?_
              refine aw_ist9 dX9_dueAt_184 (by decide) ?_
              refine aw_ald0 dX9_dueAt_186 ?_
              refine aw_getf dX9_dueAt_187 hbf_X9_55 rfl rfl ?_
              refine aw_ild11 dX9_dueAt_190 ?_
              refine aw_iald dX9_dueAt_192 rfl (by constructor <;> omega) (by decide) ?_
              refine aw_iconst dX9_dueAt_193 ?_
              refine aw_icmp_ne (tg := 224) dX9_dueAt_194 (by decide) (hG _ _) (by decide) (fun c194 => absurd c194 (by omega)) (fun c194 => ?_)
              refine aw_ild6 dX9_dueAt_197 ?_
              refine aw_ild7 dX9_dueAt_199 ?_
              refine aw_if_eq (tg := 208) dX9_dueAt_201 (by decide) (by constructor <;> omega) (fun c201 => absurd c201 (by omega)) (fun c201 => ?_)
              refine aw_iconst dX9_dueAt_204 ?_
              refine aw_goto (tg := 215) dX9_dueAt_205 (by decide) ?_
              refine aw_iadd dX9_dueAt_215 ?_
              refine aw_ist6 dX9_dueAt_216 (by decide) ?_
              refine aw_iconst dX9_dueAt_218 ?_
              refine aw_ist7 dX9_dueAt_219 (by decide) ?_
              refine aw_goto (tg := 57) dX9_dueAt_221 (by decide) ?_
              refine aw_dk_11_2 ?_
              rw [v2, v3] at h9
              exact h9
          · have v1 := v1
            refine aw_ild12 dX9_dueAt_68 ?_
            refine aw_ald0 dX9_dueAt_70 ?_
            refine aw_getf dX9_dueAt_71 hbf_X9_126 rfl rfl ?_
            refine aw_icmp_ge (tg := 152) dX9_dueAt_74 (by decide) (by constructor <;> omega) (by constructor <;> omega) (fun c74 => ?_) (fun c74 => absurd c74 (by omega))
            refine aw_ild11 dX9_dueAt_152 ?_
            refine aw_iconst dX9_dueAt_154 ?_
            refine aw_icmp_eq (tg := 162) dX9_dueAt_155 (by decide) (by constructor <;> omega) (by decide) (fun c155 => absurd c155 (by omega)) (fun c155 => ?_)
            refine aw_iconst dX9_dueAt_158 ?_
            refine aw_goto (tg := 163) dX9_dueAt_159 (by decide) ?_
            refine aw_ist10 dX9_dueAt_163 (by decide) ?_
            refine aw_ild10 dX9_dueAt_165 ?_
            refine aw_if_ne (tg := 173) dX9_dueAt_167 (by decide) (by decide) (fun c167 => ?_) (fun c167 => absurd c167 (by decide))
            refine aw_ald0 dX9_dueAt_173 ?_
            refine aw_getf dX9_dueAt_174 hbf_X9_65 rfl rfl ?_
            refine aw_ild11 dX9_dueAt_177 ?_
            refine aw_iald dX9_dueAt_179 rfl (by constructor <;> omega) (by decide) ?_
            refine aw_top (c9 := LP (j + 1)) (by rw [w2, w3]) ?_
            refine aw_ist8 dX9_dueAt_180 (by decide) ?_
            refine aw_ild11 dX9_dueAt_182 ?_
            refine aw_ist9 dX9_dueAt_184 (by decide) ?_
            refine aw_ald0 dX9_dueAt_186 ?_
            refine aw_getf dX9_dueAt_187 hbf_X9_55 rfl rfl ?_
            refine aw_ild11 dX9_dueAt_190 ?_
            refine aw_iald dX9_dueAt_192 rfl (by constructor <;> omega) (by decide) ?_
            refine aw_iconst dX9_dueAt_193 ?_
            refine aw_icmp_ne (tg := 224) dX9_dueAt_194 (by decide) (hG _ _) (by decide) (fun c194 => ?_) (fun c194 => absurd c194 (by omega))
            refine aw_iconst dX9_dueAt_224 ?_
            refine aw_ist7 dX9_dueAt_225 (by decide) ?_
            refine aw_ald0 dX9_dueAt_227 ?_
            refine aw_ild1 dX9_dueAt_228 ?_
            refine aw_ild3 dX9_dueAt_229 ?_
            refine aw_ild8 dX9_dueAt_230 ?_
            refine aw_V3v dX9_dueAt_232 (c_mCounterAt2 (by omega) p2 w4 hn hn2 hG) rfl rfl hbY_X9_counterAt hbm_X9_192 hbi_X9_counterAt hbe_X9_X9_counterAt (Nat.le_of_ble_eq_true rfl) ⟨by decide, by decide⟩ (by decide) (by decide) ?_
            refine aw_ist12 dX9_dueAt_235 (by decide) ?_
            refine aw_ild12 dX9_dueAt_237 ?_
            refine aw_ild6 dX9_dueAt_239 ?_
            refine aw_icmp_le (tg := 269) dX9_dueAt_241 (by decide) (by constructor <;> omega) (by constructor <;> omega) (fun c241 => ?_) (fun c241 => ?_)
            · skip
              refine aw_iconst dX9_dueAt_269 ?_
              refine aw_ipu13 dX9_dueAt_270 (by decide) ?_
              refine aw_ild13 dX9_dueAt_272 ?_
              refine aw_if_eq (tg := 282) dX9_dueAt_274 (by decide) (by decide) (fun c274 => ?_) (fun c274 => absurd c274 (by decide))
              refine aw_ild12 dX9_dueAt_282 ?_
              refine aw_ild5 dX9_dueAt_284 ?_
              refine aw_iadd dX9_dueAt_286 ?_
              refine aw_ist6 dX9_dueAt_287 (by decide) ?_
              refine aw_goto (tg := 57) dX9_dueAt_289 (by decide) ?_
              refine aw_dk_11_3 ?_
              rw [v2, v3] at h9
              first | (rw [if_pos ⟨by assumption, by assumption⟩] at h9; exact h9) | (rw [if_neg (fun h8 => by have a1 := h8.1; have a2 := h8.2; omega)] at h9; exact h9)
            · skip
              refine aw_ild12 dX9_dueAt_244 ?_
              refine aw_ild6 dX9_dueAt_246 ?_
              refine aw_isub dX9_dueAt_248 ?_
              refine aw_ild5 dX9_dueAt_249 ?_
              refine aw_ald0 dX9_dueAt_251 ?_
              refine aw_getf dX9_dueAt_252 hbf_X9_37 rfl rfl ?_
              refine aw_ild2 dX9_dueAt_255 ?_
              refine aw_iald dX9_dueAt_256 rfl (by constructor <;> omega) (by decide) ?_
              refine aw_imul dX9_dueAt_257 ?_
              refine aw_sipush dX9_dueAt_258 (by decide) ?_
              refine aw_idiv dX9_dueAt_261 (hb_m5 hiv htl).1 (by decide) (hb_m5 hiv htl).2 (by decide) ?_
              refine aw_icmp_gt (tg := 269) dX9_dueAt_262 (by decide) (by constructor <;> omega) (by have h8 := (hb_m5 hiv htl); constructor <;> omega) (fun c262 => ?_) (fun c262 => ?_)
              · skip
                refine aw_iconst dX9_dueAt_269 ?_
                refine aw_ipu13 dX9_dueAt_270 (by decide) ?_
                refine aw_ild13 dX9_dueAt_272 ?_
                refine aw_if_eq (tg := 282) dX9_dueAt_274 (by decide) (by decide) (fun c274 => ?_) (fun c274 => absurd c274 (by decide))
                refine aw_ild12 dX9_dueAt_282 ?_
                refine aw_ild5 dX9_dueAt_284 ?_
                refine aw_iadd dX9_dueAt_286 ?_
                refine aw_ist6 dX9_dueAt_287 (by decide) ?_
                refine aw_goto (tg := 57) dX9_dueAt_289 (by decide) ?_
                refine aw_dk_11_3 ?_
                rw [v2, v3] at h9
                first | (rw [if_pos ⟨by assumption, by assumption⟩] at h9; exact h9) | (rw [if_neg (fun h8 => by have a1 := h8.1; have a2 := h8.2; omega)] at h9; exact h9)
              · skip
                refine aw_iconst dX9_dueAt_265 ?_
                refine aw_goto (tg := 270) dX9_dueAt_266 (by decide) ?_
                refine aw_ipu13 dX9_dueAt_270 (by decide) ?_
                refine aw_ild13 dX9_dueAt_272 ?_
                refine aw_if_eq (tg := 282) dX9_dueAt_274 (by decide) (by decide) (fun c274 => absurd c274 (by decide)) (fun c274 => ?_)
                refine aw_ild6 dX9_dueAt_277 ?_
                refine aw_goto (tg := 284) dX9_dueAt_279 (by decide) ?_
                refine aw_ild5 dX9_dueAt_284 ?_
                refine aw_iadd dX9_dueAt_286 ?_
                refine aw_ist6 dX9_dueAt_287 (by decide) ?_
                refine aw_goto (tg := 57) dX9_dueAt_289 (by decide) ?_
                refine aw_dk_11_3 ?_
                rw [v2, v3] at h9
                first | (rw [if_pos ⟨by assumption, by assumption⟩] at h9; exact h9) | (rw [if_neg (fun h8 => by have a1 := h8.1; have a2 := h8.2; omega)] at h9; exact h9)
        | succ q ih2 =>
          intro e g1
          have h9 := ih2 (e + 1) (by omega)
          have q9 := hb_nx_in G t k pt (LP j) (LE j) e
          refine aw_ild12 dX9_dueAt_68 ?_
          refine aw_ald0 dX9_dueAt_70 ?_
          refine aw_getf dX9_dueAt_71 hbf_X9_126 rfl rfl ?_
          refine aw_icmp_ge (tg := 152) dX9_dueAt_74 (by decide) (by constructor <;> omega) (by constructor <;> omega) (fun c74 => absurd c74 (by omega)) (fun c74 => ?_)
          refine aw_ald0 dX9_dueAt_77 ?_
          refine aw_ild12 dX9_dueAt_78 ?_
          refine aw_ild1 dX9_dueAt_80 ?_
          refine aw_ild2 dX9_dueAt_81 ?_
          refine aw_ild4 dX9_dueAt_82 ?_
          refine aw_V4v dX9_dueAt_84 (c_mIsOf (by omega) (by constructor <;> omega) (by constructor <;> omega) ip hG) rfl rfl hbY_X9_isOf hbm_X9_196 hbi_X9_isOf hbe_X9_X9_isOf (Nat.le_of_ble_eq_true rfl) ⟨by decide, by decide⟩ (by decide) (by decide) ?_
          refine aw_ifb_eq (tg := 146) dX9_dueAt_87 (by decide) (fun c87 => ?_) (fun c87 => ?_)
          · skip
            refine aw_iinc12 dX9_dueAt_146 (by decide) ?_
            refine aw_goto (tg := 68) dX9_dueAt_149 (by decide) ?_
            first | (rw [hb_nx_y (G := G) (t := t) (k := k) (pt := pt) (lp := LP j) (le := LE j) (e := e) ⟨⟨c87, c106⟩, Or.inl c115⟩] at h9; exact h9) | (rw [hb_nx_y (G := G) (t := t) (k := k) (pt := pt) (lp := LP j) (le := LE j) (e := e) ⟨⟨c87, c106⟩, Or.inr c139⟩] at h9; exact h9) | (rw [hb_nx_n (G := G) (t := t) (k := k) (pt := pt) (lp := LP j) (le := LE j) (e := e) (fun h8 => by first | exact c87 h8.1.1 | exact c106 h8.1.2 | (rcases h8.2 with h7 | h7; exact c115 h7; exact c139 h7))] at h9; exact h9)
          · skip
            refine aw_ald0 dX9_dueAt_90 ?_
            refine aw_getf dX9_dueAt_91 hbf_X9_65 rfl rfl ?_
            refine aw_ild12 dX9_dueAt_94 ?_
            refine aw_iald dX9_dueAt_96 rfl (by constructor <;> omega) (by decide) ?_
            refine aw_ild12 dX9_dueAt_97 ?_
            refine aw_ild8 dX9_dueAt_99 ?_
            refine aw_ild9 dX9_dueAt_101 ?_
            refine aw_S4v dX9_dueAt_103 (c_mIsAfter (hG _ _) (by constructor <;> omega) q2 q3) hbY_X9_isAfter hbm_X9_200 hbs_X9_isAfter (Nat.le_of_ble_eq_true rfl) ⟨by decide, by decide⟩ (by decide) (by decide) ?_
            refine aw_ifb_ne (tg := 112) dX9_dueAt_106 (by decide) (fun c106 => ?_) (fun c106 => ?_)
            · skip
              refine aw_ild11 dX9_dueAt_112 ?_
              refine aw_iconst dX9_dueAt_114 ?_
              refine aw_icmp_eq (tg := 142) dX9_dueAt_115 (by decide) (by constructor <;> omega) (by decide) (fun c115 => ?_) (fun c115 => ?_)
              · skip
                refine aw_ild12 dX9_dueAt_142 ?_
                refine aw_ist11 dX9_dueAt_144 (by decide) ?_
                refine aw_iinc12 dX9_dueAt_146 (by decide) ?_
                refine aw_goto (tg := 68) dX9_dueAt_149 (by decide) ?_
                first | (rw [hb_nx_y (G := G) (t := t) (k := k) (pt := pt) (lp := LP j) (le := LE j) (e := e) ⟨⟨c87, c106⟩, Or.inl c115⟩] at h9; exact h9) | (rw [hb_nx_y (G := G) (t := t) (k := k) (pt := pt) (lp := LP j) (le := LE j) (e := e) ⟨⟨c87, c106⟩, Or.inr c139⟩] at h9; exact h9) | (rw [hb_nx_n (G := G) (t := t) (k := k) (pt := pt) (lp := LP j) (le := LE j) (e := e) (fun h8 => by first | exact c87 h8.1.1 | exact c106 h8.1.2 | (rcases h8.2 with h7 | h7; exact c115 h7; exact c139 h7))] at h9; exact h9)
              · skip
                refine aw_ald0 dX9_dueAt_118 ?_
                refine aw_getf dX9_dueAt_119 hbf_X9_65 rfl rfl ?_
                refine aw_ild11 dX9_dueAt_122 ?_
                refine aw_iald dX9_dueAt_124 rfl (by constructor <;> omega) (by decide) ?_
                refine aw_ild11 dX9_dueAt_125 ?_
                refine aw_ald0 dX9_dueAt_127 ?_
                refine aw_getf dX9_dueAt_128 hbf_X9_65 rfl rfl ?_
                refine aw_ild12 dX9_dueAt_131 ?_
                refine aw_iald dX9_dueAt_133 rfl (by constructor <;> omega) (by decide) ?_
                refine aw_ild12 dX9_dueAt_134 ?_
                refine aw_S4v dX9_dueAt_136 (c_mIsAfter (hG _ _) (by constructor <;> omega) (hG _ _) (by constructor <;> omega)) hbY_X9_isAfter hbm_X9_200 hbs_X9_isAfter (Nat.le_of_ble_eq_true rfl) ⟨by decide, by decide⟩ (by decide) (by decide) ?_
                refine aw_ifb_eq (tg := 146) dX9_dueAt_139 (by decide) (fun c139 => ?_) (fun c139 => ?_)
                · skip
                  refine aw_iinc12 dX9_dueAt_146 (by decide) ?_
                  refine aw_goto (tg := 68) dX9_dueAt_149 (by decide) ?_
                  first | (rw [hb_nx_y (G := G) (t := t) (k := k) (pt := pt) (lp := LP j) (le := LE j) (e := e) ⟨⟨c87, c106⟩, Or.inl c115⟩] at h9; exact h9) | (rw [hb_nx_y (G := G) (t := t) (k := k) (pt := pt) (lp := LP j) (le := LE j) (e := e) ⟨⟨c87, c106⟩, Or.inr c139⟩] at h9; exact h9) | (rw [hb_nx_n (G := G) (t := t) (k := k) (pt := pt) (lp := LP j) (le := LE j) (e := e) (fun h8 => by first | exact c87 h8.1.1 | exact c106 h8.1.2 | (rcases h8.2 with h7 | h7; exact c115 h7; exact c139 h7))] at h9; exact h9)
                · skip
                  refine aw_ild12 dX9_dueAt_142 ?_
                  refine aw_ist11 dX9_dueAt_144 (by decide) ?_
                  refine aw_iinc12 dX9_dueAt_146 (by decide) ?_
                  refine aw_goto (tg := 68) dX9_dueAt_149 (by decide) ?_
                  first | (rw [hb_nx_y (G := G) (t := t) (k := k) (pt := pt) (lp := LP j) (le := LE j) (e := e) ⟨⟨c87, c106⟩, Or.inl c115⟩] at h9; exact h9) | (rw [hb_nx_y (G := G) (t := t) (k := k) (pt := pt) (lp := LP j) (le := LE j) (e := e) ⟨⟨c87, c106⟩, Or.inr c139⟩] at h9; exact h9) | (rw [hb_nx_n (G := G) (t := t) (k := k) (pt := pt) (lp := LP j) (le := LE j) (e := e) (fun h8 => by first | exact c87 h8.1.1 | exact c106 h8.1.2 | (rcases h8.2 with h7 | h7; exact c115 h7; exact c139 h7))] at h9; exact h9)
            · skip
              refine aw_goto (tg := 146) dX9_dueAt_109 (by decide) ?_
              refine aw_iinc12 dX9_dueAt_146 (by decide) ?_
              refine aw_goto (tg := 68) dX9_dueAt_149 (by decide) ?_
              first | (rw [hb_nx_y (G := G) (t := t) (k := k) (pt := pt) (lp := LP j) (le := LE j) (e := e) ⟨⟨c87, c106⟩, Or.inl c115⟩] at h9; exact h9) | (rw [hb_nx_y (G := G) (t := t) (k := k) (pt := pt) (lp := LP j) (le := LE j) (e := e) ⟨⟨c87, c106⟩, Or.inr c139⟩] at h9; exact h9) | (rw [hb_nx_n (G := G) (t := t) (k := k) (pt := pt) (lp := LP j) (le := LE j) (e := e) (fun h8 => by first | exact c87 h8.1.1 | exact c106 h8.1.2 | (rcases h8.2 with h7 | h7; exact c115 h7; exact c139 h7))] at h9; exact h9)
      refine aw_ild10 dX9_dueAt_57 ?_
      refine aw_if_eq (tg := 292) dX9_dueAt_59 (by decide) (by decide) (fun c59 => absurd c59 (by decide)) (fun c59 => ?_)
      refine aw_iconst dX9_dueAt_62 ?_
      refine aw_ipu11 dX9_dueAt_63 (by decide) ?_
      refine aw_iconst dX9_dueAt_65 ?_
      refine aw_ipu12 dX9_dueAt_66 (by decide) ?_
      exact in1 n 0 (by omega)
  have h9 := key m 0 (by omega)
  rw [hz.1, hz.2.1, hz.2.2, h0] at h9
  refine aw_ald0 dX9_dueAt_0 ?_
  refine aw_getf dX9_dueAt_1 hbf_X9_34 rfl rfl ?_
  refine aw_iconst dX9_dueAt_4 ?_
  refine aw_ild2 dX9_dueAt_5 ?_
  refine aw_imul dX9_dueAt_6 ?_
  refine aw_ild3 dX9_dueAt_7 ?_
  refine aw_iadd dX9_dueAt_8 ?_
  refine aw_iald dX9_dueAt_9 rfl (by constructor <;> omega) (by decide) ?_
  refine aw_ipu5 dX9_dueAt_10 (by decide) ?_
  refine aw_ild5 dX9_dueAt_12 ?_
  refine aw_ild3 dX9_dueAt_14 ?_
  refine aw_if_ne (tg := 27) dX9_dueAt_15 (by decide) (by decide) (fun c15 => ?_) (fun c15 => absurd c15 (by decide))
  refine aw_ild3 dX9_dueAt_27 ?_
  refine aw_iconst dX9_dueAt_28 ?_
  refine aw_icmp_ne (tg := 41) dX9_dueAt_29 (by decide) (by decide) (by decide) (fun c29 => ?_) (fun c29 => absurd c29 (by decide))
  refine aw_iconst dX9_dueAt_41 ?_
  refine aw_iadd dX9_dueAt_42 ?_
  refine aw_ipu6 dX9_dueAt_43 (by decide) ?_
  refine aw_iconst dX9_dueAt_45 ?_
  refine aw_ipu7 dX9_dueAt_46 (by decide) ?_
  refine aw_iconst dX9_dueAt_48 ?_
  refine aw_ipu8 dX9_dueAt_49 (by decide) ?_
  refine aw_iconst dX9_dueAt_51 ?_
  refine aw_ipu9 dX9_dueAt_52 (by decide) ?_
  refine aw_iconst dX9_dueAt_54 ?_
  refine aw_ipu10 dX9_dueAt_55 (by decide) ?_
  exact h9

set_option maxRecDepth 20000 in
set_option maxHeartbeats 1000000 in
theorem c_mSort {l : Launch} {G : hb_G} {F : hb_F} {na : Nat} {SS : Nat → hb_G} {cc : Nat → Int} {n : Nat} (hn : n ≤ 201) (h0 : hb_u2 G 47 26 0 = SS 0) (hc0 : cc 0 = 0) (hR : ∀ e, e ≤ n → hb_rg (SS e)) (hN : ∀ e, e ≤ n → SS e 47 17 = n ∧ SS e 47 26 = cc e ∧ (0 ≤ cc e ∧ cc e ≤ e) ∧ ∀ k, 0 ≤ k ∧ k < cc e → 0 ≤ SS e 70 k ∧ SS e 70 k < 201) (hst : ∀ e : Nat, e < n → (¬ hb_jv (SS e) e ∧ SS (e + 1) = SS e ∧ cc (e + 1) = cc e) ∨ (hb_jv (SS e) e ∧ cc (e + 1) = cc e + 1 ∧ ∃ i : Int, (0 ≤ i ∧ i ≤ cc e) ∧ (∀ k, i ≤ k ∧ k < cc e → SS e 66 e < SS e 66 (SS e 70 k)) ∧ (i = 0 ∨ (0 < i ∧ SS e 66 (SS e 70 (i - 1)) ≤ SS e 66 e)) ∧ SS (e + 1) = hb_u2 (hb_u1 (SS e) 70 (hb_zs (SS e 70) (cc e) i e)) 47 26 (cc e + 1)))  : hb_M l yX9_sortMoves cX9_sortMoves 3 none 1 0 0 [hb_r 47] (hb_w G F na) (77 + na) (.inl none) (hb_w (SS n) F na) (77 + na) := by
  refine hb_M_in rfl rfl (by decide) rfl (Nat.le_of_ble_eq_true rfl) ?_
  intro E z0 σ0
  have key : ∀ (r e : Nat), e + r = n → hb_W l RX9 cX9_sortMoves 3 none "sortMoves" [] E z0 (hb_rm 1 0 0) σ0 (77 + na) (.inl none) (hb_w (SS n) F na) (77 + na) 0 0 7 [hb_r 47, hb_i (e : Int)] [] (hb_w (SS e) F na) (77 + na) := by
    intro r
    induction r with
    | zero =>
      intro e g0
      have e9 : e = n := by omega
      subst e9
      have a1 := hN e (by omega)
      refine aw_ild1 dX9_sortMoves_7 ?_
      refine aw_ald0 dX9_sortMoves_8 ?_
      refine aw_getf dX9_sortMoves_9 hbf_X9_126 rfl rfl ?_
      refine aw_icmp_ge (tg := 100) dX9_sortMoves_12 (by decide) (by constructor <;> omega) (by constructor <;> omega) (fun c12 => ?_) (fun c12 => absurd c12 (by omega))
      exact aw_vret dX9_sortMoves_100 rfl rfl rfl rfl (by decide) (by decide)
    | succ r ih =>
      intro e g0
      have a1 := hN e (by omega)
      have hG := hR e (by omega)
      have h9 := ih (e + 1) (by omega)
      rcases hst e (by omega) with ⟨b1, b2, b3⟩ | ⟨b1, b3, i, hi, hbf, hsi, b2⟩
      · rw [b2] at h9
        refine aw_ild1 dX9_sortMoves_7 ?_
        refine aw_ald0 dX9_sortMoves_8 ?_
        refine aw_getf dX9_sortMoves_9 hbf_X9_126 rfl rfl ?_
        refine aw_icmp_ge (tg := 100) dX9_sortMoves_12 (by decide) (by constructor <;> omega) (by constructor <;> omega) (fun c12 => absurd c12 (by omega)) (fun c12 => ?_)
        refine aw_ald0 dX9_sortMoves_15 ?_
        refine aw_ild1 dX9_sortMoves_16 ?_
        refine aw_V1v dX9_sortMoves_17 (c_mIsMove (by first | assumption | (constructor <;> omega) | exact hG _ _) hG) rfl rfl hbY_X9_isMove hbm_X9_129 hbi_X9_isMove hbe_X9_X9_isMove (Nat.le_of_ble_eq_true rfl) ⟨by decide, by decide⟩ (by decide) (by decide) ?_
        refine aw_ifb_ne (tg := 26) dX9_sortMoves_20 (by decide) (fun c20 => absurd c20 (by exact fun h8 => b1 h8)) (fun c20 => ?_)
        refine aw_goto (tg := 94) dX9_sortMoves_23 (by decide) ?_
        refine aw_iinc1 dX9_sortMoves_94 (by decide) ?_
        refine aw_goto (tg := 7) dX9_sortMoves_97 (by decide) ?_
        exact h9
      · rw [b2] at h9
        have key2 : ∀ (m : Nat) (k : Int), i ≤ k → k ≤ cc e → k - i = m → hb_W l RX9 cX9_sortMoves 3 none "sortMoves" [] E z0 (hb_rm 1 0 0) σ0 (77 + na) (.inl none) (hb_w (SS n) F na) (77 + na) 0 0 31 [hb_r 47, hb_i (e : Int), hb_i k] [] (hb_w (hb_u1 (SS e) 70 (hb_zh (SS e 70) (cc e) (k))) F na) (77 + na) := by
          intro m
          induction m with
          | zero =>
            intro k h1 h2 h3
            have e9 : k = i := by omega
            subst e9
            rcases hsi with q0 | q0
            · have q0 := q0
              refine aw_ild2 dX9_sortMoves_31 ?_
              refine aw_if_le (tg := 77) dX9_sortMoves_32 (by decide) (by constructor <;> omega) (fun c32 => ?_) (fun c32 => absurd c32 (by omega))
              refine aw_ald0 dX9_sortMoves_77 ?_
              refine aw_getf dX9_sortMoves_78 hbf_X9_77 rfl rfl ?_
              refine aw_ild2 dX9_sortMoves_81 ?_
              refine aw_ild1 dX9_sortMoves_82 ?_
              refine aw_iastw dX9_sortMoves_83 (fun _ => rfl) rfl (by constructor <;> omega) (by decide) ?_
              refine aw_G (G2 := hb_u1 (SS e) 70 (hb_zs (SS e 70) (cc e) k e)) (by rw [hb_u2_u1, hb_zh_e]) ?_
              refine aw_ald0 dX9_sortMoves_84 ?_
              refine aw_dup dX9_sortMoves_85 rfl ?_
              refine aw_getf dX9_sortMoves_86 hbf_X9_123 rfl rfl ?_
              refine aw_top (c9 := cc e) a1.2.1 ?_
              refine aw_iconst dX9_sortMoves_89 ?_
              refine aw_iadd dX9_sortMoves_90 ?_
              refine aw_putz (jz := 26) dX9_sortMoves_91 hbf_X9_123 hbS_X9 (fun C T n h9 => by cases h9; exact ⟨rfl, by decide +kernel, fun h8 => by cases h8⟩) rfl rfl rfl rfl ?_
              refine aw_iinc1 dX9_sortMoves_94 (by decide) ?_
              refine aw_goto (tg := 7) dX9_sortMoves_97 (by decide) ?_
              refine aw_dk_2_1 ?_
              exact h9
            · have q1 := a1.2.2.2 (k - 1) (by omega)
              refine aw_ild2 dX9_sortMoves_31 ?_
              refine aw_if_le (tg := 77) dX9_sortMoves_32 (by decide) (by constructor <;> omega) (fun c32 => absurd c32 (by omega)) (fun c32 => ?_)
              refine aw_ald0 dX9_sortMoves_35 ?_
              refine aw_getf dX9_sortMoves_36 hbf_X9_65 rfl rfl ?_
              refine aw_ald0 dX9_sortMoves_39 ?_
              refine aw_getf dX9_sortMoves_40 hbf_X9_77 rfl rfl ?_
              refine aw_ild2 dX9_sortMoves_43 ?_
              refine aw_iconst dX9_sortMoves_44 ?_
              refine aw_isub dX9_sortMoves_45 ?_
              refine aw_iald dX9_sortMoves_46 rfl (by constructor <;> omega) (by decide) ?_
              refine aw_top (c9 := SS e 70 (k - 1)) (by unfold hb_u1 hb_zh; rw [if_pos rfl, if_neg (by omega)]) ?_
              refine aw_iald dX9_sortMoves_47 rfl (by constructor <;> omega) (by decide) ?_
              refine aw_top (c9 := SS e 66 (SS e 70 (k - 1))) rfl ?_
              refine aw_ald0 dX9_sortMoves_48 ?_
              refine aw_getf dX9_sortMoves_49 hbf_X9_65 rfl rfl ?_
              refine aw_ild1 dX9_sortMoves_52 ?_
              refine aw_iald dX9_sortMoves_53 rfl (by constructor <;> omega) (by decide) ?_
              refine aw_top (c9 := SS e 66 e) rfl ?_
              refine aw_icmp_le (tg := 77) dX9_sortMoves_54 (by decide) (hG _ _) (hG _ _) (fun c54 => ?_) (fun c54 => absurd c54 (by omega))
              refine aw_ald0 dX9_sortMoves_77 ?_
              refine aw_getf dX9_sortMoves_78 hbf_X9_77 rfl rfl ?_
              refine aw_ild2 dX9_sortMoves_81 ?_
              refine aw_ild1 dX9_sortMoves_82 ?_
              refine aw_iastw dX9_sortMoves_83 (fun _ => rfl) rfl (by constructor <;> omega) (by decide) ?_
              refine aw_G (G2 := hb_u1 (SS e) 70 (hb_zs (SS e 70) (cc e) k e)) (by rw [hb_u2_u1, hb_zh_e]) ?_
              refine aw_ald0 dX9_sortMoves_84 ?_
              refine aw_dup dX9_sortMoves_85 rfl ?_
              refine aw_getf dX9_sortMoves_86 hbf_X9_123 rfl rfl ?_
              refine aw_top (c9 := cc e) a1.2.1 ?_
              refine aw_iconst dX9_sortMoves_89 ?_
              refine aw_iadd dX9_sortMoves_90 ?_
              refine aw_putz (jz := 26) dX9_sortMoves_91 hbf_X9_123 hbS_X9 (fun C T n h9 => by cases h9; exact ⟨rfl, by decide +kernel, fun h8 => by cases h8⟩) rfl rfl rfl rfl ?_
              refine aw_iinc1 dX9_sortMoves_94 (by decide) ?_
              refine aw_goto (tg := 7) dX9_sortMoves_97 (by decide) ?_
              refine aw_dk_2_1 ?_
              exact h9
          | succ m ih2 =>
            intro k h1 h2 h3
            have q1 := a1.2.2.2 (k - 1) (by omega)
            have q2 := hbf (k - 1) (by omega)
            refine aw_ild2 dX9_sortMoves_31 ?_
            refine aw_if_le (tg := 77) dX9_sortMoves_32 (by decide) (by constructor <;> omega) (fun c32 => absurd c32 (by omega)) (fun c32 => ?_)
            refine aw_ald0 dX9_sortMoves_35 ?_
            refine aw_getf dX9_sortMoves_36 hbf_X9_65 rfl rfl ?_
            refine aw_ald0 dX9_sortMoves_39 ?_
            refine aw_getf dX9_sortMoves_40 hbf_X9_77 rfl rfl ?_
            refine aw_ild2 dX9_sortMoves_43 ?_
            refine aw_iconst dX9_sortMoves_44 ?_
            refine aw_isub dX9_sortMoves_45 ?_
            refine aw_iald dX9_sortMoves_46 rfl (by constructor <;> omega) (by decide) ?_
            refine aw_top (c9 := SS e 70 (k - 1)) (by unfold hb_u1 hb_zh; rw [if_pos rfl, if_neg (by omega)]) ?_
            refine aw_iald dX9_sortMoves_47 rfl (by constructor <;> omega) (by decide) ?_
            refine aw_top (c9 := SS e 66 (SS e 70 (k - 1))) rfl ?_
            refine aw_ald0 dX9_sortMoves_48 ?_
            refine aw_getf dX9_sortMoves_49 hbf_X9_65 rfl rfl ?_
            refine aw_ild1 dX9_sortMoves_52 ?_
            refine aw_iald dX9_sortMoves_53 rfl (by constructor <;> omega) (by decide) ?_
            refine aw_top (c9 := SS e 66 e) rfl ?_
            refine aw_icmp_le (tg := 77) dX9_sortMoves_54 (by decide) (hG _ _) (hG _ _) (fun c54 => absurd c54 (by omega)) (fun c54 => ?_)
            refine aw_ald0 dX9_sortMoves_57 ?_
            refine aw_getf dX9_sortMoves_58 hbf_X9_77 rfl rfl ?_
            refine aw_ild2 dX9_sortMoves_61 ?_
            refine aw_ald0 dX9_sortMoves_62 ?_
            refine aw_getf dX9_sortMoves_63 hbf_X9_77 rfl rfl ?_
            refine aw_ild2 dX9_sortMoves_66 ?_
            refine aw_iconst dX9_sortMoves_67 ?_
            refine aw_isub dX9_sortMoves_68 ?_
            refine aw_iald dX9_sortMoves_69 rfl (by constructor <;> omega) (by decide) ?_
            refine aw_top (c9 := SS e 70 (k - 1)) (by unfold hb_u1 hb_zh; rw [if_pos rfl, if_neg (by omega)]) ?_
            refine aw_iastw dX9_sortMoves_70 (fun _ => rfl) rfl (by constructor <;> omega) (by decide) ?_
            refine aw_G (G2 := hb_u1 (SS e) 70 (hb_zh (SS e 70) (cc e) (k - 1))) (by rw [hb_u2_u1, hb_zh_s _ _ _ (by omega)]) ?_
            refine aw_iinc2 dX9_sortMoves_71 (by decide) ?_
            refine aw_goto (tg := 31) dX9_sortMoves_74 (by decide) ?_
            exact ih2 (k + -1) (by omega) (by omega) (by omega)
        refine aw_ild1 dX9_sortMoves_7 ?_
        refine aw_ald0 dX9_sortMoves_8 ?_
        refine aw_getf dX9_sortMoves_9 hbf_X9_126 rfl rfl ?_
        refine aw_icmp_ge (tg := 100) dX9_sortMoves_12 (by decide) (by constructor <;> omega) (by constructor <;> omega) (fun c12 => absurd c12 (by omega)) (fun c12 => ?_)
        refine aw_ald0 dX9_sortMoves_15 ?_
        refine aw_ild1 dX9_sortMoves_16 ?_
        refine aw_V1v dX9_sortMoves_17 (c_mIsMove (by first | assumption | (constructor <;> omega) | exact hG _ _) hG) rfl rfl hbY_X9_isMove hbm_X9_129 hbi_X9_isMove hbe_X9_X9_isMove (Nat.le_of_ble_eq_true rfl) ⟨by decide, by decide⟩ (by decide) (by decide) ?_
        refine aw_ifb_ne (tg := 26) dX9_sortMoves_20 (by decide) (fun c20 => ?_) (fun c20 => absurd c20 (by exact fun h8 => h8 b1))
        refine aw_ald0 dX9_sortMoves_26 ?_
        refine aw_getf dX9_sortMoves_27 hbf_X9_123 rfl rfl ?_
        refine aw_top (c9 := cc e) a1.2.1 ?_
        refine aw_ipu2 dX9_sortMoves_30 (by decide) ?_
        refine aw_G (G2 := hb_u1 (SS e) 70 (hb_zh (SS e 70) (cc e) (cc e))) (by rw [hb_zh_n, hb_u1_id]) ?_
        exact key2 (cc e - i).toNat (cc e) (by omega) (by omega) (by omega)
  refine aw_ald0 dX9_sortMoves_0 ?_
  refine aw_iconst dX9_sortMoves_1 ?_
  refine aw_putz (jz := 26) dX9_sortMoves_2 hbf_X9_123 hbS_X9 (fun C T n h9 => by cases h9; exact ⟨rfl, by decide +kernel, fun h8 => by cases h8⟩) rfl rfl rfl rfl ?_
  refine aw_iconst dX9_sortMoves_5 ?_
  refine aw_ipu1 dX9_sortMoves_6 (by decide) ?_
  exact aw_G h0 (key n 0 (by omega))
set_option maxRecDepth 20000 in
set_option maxHeartbeats 1000000 in
theorem c_mTry0 {l : Launch} {G : hb_G} {F : hb_F} {na : Nat} {k t at9 a b : Int} (iat : hb_in at9) (hG : hb_rg G) : hb_M l yX9_tryMove cX9_tryMove 9 (some .int) 6 0 0 [hb_r 47, hb_i 0, hb_i k, hb_i t, hb_i at9, hb_i a, hb_i b] (hb_w G F na) (77 + na) (.inl (some (hb_i (0)))) (hb_w (hb_u2 G 47 0 1) F na) (77 + na) := by
  refine hb_M_in rfl rfl (by decide) rfl (Nat.le_of_ble_eq_true rfl) ?_
  intro E z0 σ0
  have hG0 : hb_rg (hb_u2 G 47 0 1) := hG.u2 (by decide)
  refine aw_ald0 dX9_tryMove_0 ?_
  refine aw_ild1 dX9_tryMove_1 ?_
  refine aw_if_ne (tg := 9) dX9_tryMove_2 (by decide) (by decide) (fun c2 => absurd c2 (by decide)) (fun c2 => ?_)
  refine aw_iconst dX9_tryMove_5 ?_
  refine aw_goto (tg := 24) dX9_tryMove_6 (by decide) ?_
  refine aw_putz (jz := 0) dX9_tryMove_24 hbf_X9_95 hbS_X9 (fun C T n h9 => by cases h9; exact ⟨rfl, by decide +kernel, fun h8 => by cases h8⟩) rfl rfl rfl rfl ?_
  refine aw_iconst dX9_tryMove_27 ?_
  refine aw_ipu7 dX9_tryMove_28 (by decide) ?_
  refine aw_ild7 dX9_tryMove_30 ?_
  refine aw_ald0 dX9_tryMove_32 ?_
  refine aw_getf dX9_tryMove_33 hbf_X9_126 rfl rfl ?_
  refine aw_icmp_ge (tg := 82) dX9_tryMove_36 (by decide) (by decide) (hG0 _ _) (fun c36 => ?_) (fun c36 => ?_)
  · skip
    refine aw_ald0 dX9_tryMove_82 ?_
    refine aw_getf dX9_tryMove_83 hbf_X9_95 rfl rfl ?_
    refine aw_top (c9 := 1) rfl ?_
    refine aw_if_eq (tg := 91) dX9_tryMove_86 (by decide) (by decide) (fun c86 => absurd c86 (by decide)) (fun c86 => ?_)
    refine aw_iconst dX9_tryMove_89 ?_
    exact aw_iret dX9_tryMove_90 rfl (by rfl) rfl rfl (by decide) (by decide)
  · skip
    refine aw_ald0 dX9_tryMove_39 ?_
    refine aw_getf dX9_tryMove_40 hbf_X9_95 rfl rfl ?_
    refine aw_top (c9 := 1) rfl ?_
    refine aw_if_ne (tg := 82) dX9_tryMove_43 (by decide) (by decide) (fun c43 => ?_) (fun c43 => absurd c43 (by decide))
    refine aw_ald0 dX9_tryMove_82 ?_
    refine aw_getf dX9_tryMove_83 hbf_X9_95 rfl rfl ?_
    refine aw_top (c9 := 1) rfl ?_
    refine aw_if_eq (tg := 91) dX9_tryMove_86 (by decide) (by decide) (fun c86 => absurd c86 (by decide)) (fun c86 => ?_)
    refine aw_iconst dX9_tryMove_89 ?_
    exact aw_iret dX9_tryMove_90 rfl (by rfl) rfl rfl (by decide) (by decide)
set_option maxRecDepth 20000 in
set_option maxHeartbeats 1000000 in
theorem c_mTry2 {l : Launch} {G : hb_G} {F : hb_F} {na : Nat} {k t at9 a b : Int} (iat : hb_in at9) (hn : G 47 17 = 200) (hG : hb_rg G) : hb_M l yX9_tryMove cX9_tryMove 9 (some .int) 6 0 0 [hb_r 47, hb_i 1, hb_i k, hb_i t, hb_i at9, hb_i a, hb_i b] (hb_w G F na) (77 + na) (.inl (some (hb_i (0)))) (hb_w (hb_u2 G 47 0 2) F na) (77 + na) := by
  refine hb_M_in rfl rfl (by decide) rfl (Nat.le_of_ble_eq_true rfl) ?_
  intro E z0 σ0
  have hG0 : hb_rg (hb_u2 G 47 0 2) := hG.u2 (by decide)
  refine aw_ald0 dX9_tryMove_0 ?_
  refine aw_ild1 dX9_tryMove_1 ?_
  refine aw_if_ne (tg := 9) dX9_tryMove_2 (by decide) (by decide) (fun c2 => ?_) (fun c2 => absurd c2 (by decide))
  refine aw_ald0 dX9_tryMove_9 ?_
  refine aw_getf dX9_tryMove_10 hbf_X9_126 rfl rfl ?_
  refine aw_sipush dX9_tryMove_13 (by decide) ?_
  refine aw_icmp_ne (tg := 23) dX9_tryMove_16 (by decide) (by first | exact hG _ _ | assumption | (constructor <;> omega)) (by first | exact hG _ _ | assumption | (constructor <;> omega)) (fun c16 => absurd c16 (by omega)) (fun c16 => ?_)
  refine aw_iconst dX9_tryMove_19 ?_
  refine aw_goto (tg := 24) dX9_tryMove_20 (by decide) ?_
  refine aw_putz (jz := 0) dX9_tryMove_24 hbf_X9_95 hbS_X9 (fun C T n h9 => by cases h9; exact ⟨rfl, by decide +kernel, fun h8 => by cases h8⟩) rfl rfl rfl rfl ?_
  refine aw_iconst dX9_tryMove_27 ?_
  refine aw_ipu7 dX9_tryMove_28 (by decide) ?_
  refine aw_ild7 dX9_tryMove_30 ?_
  refine aw_ald0 dX9_tryMove_32 ?_
  refine aw_getf dX9_tryMove_33 hbf_X9_126 rfl rfl ?_
  refine aw_icmp_ge (tg := 82) dX9_tryMove_36 (by decide) (by decide) (hG0 _ _) (fun c36 => ?_) (fun c36 => ?_)
  · skip
    refine aw_ald0 dX9_tryMove_82 ?_
    refine aw_getf dX9_tryMove_83 hbf_X9_95 rfl rfl ?_
    refine aw_top (c9 := 2) rfl ?_
    refine aw_if_eq (tg := 91) dX9_tryMove_86 (by decide) (by decide) (fun c86 => absurd c86 (by decide)) (fun c86 => ?_)
    refine aw_iconst dX9_tryMove_89 ?_
    exact aw_iret dX9_tryMove_90 rfl (by rfl) rfl rfl (by decide) (by decide)
  · skip
    refine aw_ald0 dX9_tryMove_39 ?_
    refine aw_getf dX9_tryMove_40 hbf_X9_95 rfl rfl ?_
    refine aw_top (c9 := 2) rfl ?_
    refine aw_if_ne (tg := 82) dX9_tryMove_43 (by decide) (by decide) (fun c43 => ?_) (fun c43 => absurd c43 (by decide))
    refine aw_ald0 dX9_tryMove_82 ?_
    refine aw_getf dX9_tryMove_83 hbf_X9_95 rfl rfl ?_
    refine aw_top (c9 := 2) rfl ?_
    refine aw_if_eq (tg := 91) dX9_tryMove_86 (by decide) (by decide) (fun c86 => absurd c86 (by decide)) (fun c86 => ?_)
    refine aw_iconst dX9_tryMove_89 ?_
    exact aw_iret dX9_tryMove_90 rfl (by rfl) rfl rfl (by decide) (by decide)
set_option maxRecDepth 20000 in
set_option maxHeartbeats 1000000 in
theorem c_mTryP {l : Launch} {G : hb_G} {F : hb_F} {na : Nat} {k t at9 a b : Int} (iat : hb_in at9) {n : Nat} (hn : G 47 17 = n) (hn2 : n < 200) {e0 : Nat} (h0 : e0 < n) (hv : hb_jv (hb_u2 G 47 0 0) e0) (hpt : G 66 (e0 : Int) = at9) (hno : ∀ e : Nat, e < e0 → ¬ (hb_jv (hb_u2 G 47 0 0) e ∧ G 66 (e : Int) = at9)) (hG : hb_rg G) : hb_M l yX9_tryMove cX9_tryMove 9 (some .int) 6 0 0 [hb_r 47, hb_i 1, hb_i k, hb_i t, hb_i at9, hb_i a, hb_i b] (hb_w G F na) (77 + na) (.inl (some (hb_i (0)))) (hb_w (hb_u2 G 47 0 2) F na) (77 + na) := by
  refine hb_M_in rfl rfl (by decide) rfl (Nat.le_of_ble_eq_true rfl) ?_
  intro E z0 σ0
  have hG0 : hb_rg (hb_u2 G 47 0 0) := hG.u2 (by decide)
  have kend : ∀ e : Nat, e < n → hb_W l RX9 cX9_tryMove 9 (some .int) "tryMove" [] E z0 (hb_rm 6 0 0) σ0 (77 + na) (.inl (some (hb_i (0)))) (hb_w (hb_u2 G 47 0 2) F na) (77 + na) 0 0 30 [hb_r 47, hb_i 1, hb_i k, hb_i t, hb_i at9, hb_i a, hb_i b, hb_i ((e : Int) + 1)] [] (hb_w (hb_u2 G 47 0 2) F na) (77 + na) := by
    intro e g9
    rcases (show (e : Int) + 1 = n ∨ (e : Int) + 1 < n by omega) with g8 | g8
    · have g8 := g8
      refine aw_ild7 dX9_tryMove_30 ?_
      refine aw_ald0 dX9_tryMove_32 ?_
      refine aw_getf dX9_tryMove_33 hbf_X9_126 rfl rfl ?_
      refine aw_top (c9 := (n : Int)) hn ?_
      refine aw_icmp_ge (tg := 82) dX9_tryMove_36 (by decide) (by constructor <;> omega) (by constructor <;> omega) (fun c36 => ?_) (fun c36 => absurd c36 (by omega))
      refine aw_ald0 dX9_tryMove_82 ?_
      refine aw_getf dX9_tryMove_83 hbf_X9_95 rfl rfl ?_
      refine aw_top (c9 := 2) rfl ?_
      refine aw_if_eq (tg := 91) dX9_tryMove_86 (by decide) (by decide) (fun c86 => absurd c86 (by decide)) (fun c86 => ?_)
      refine aw_iconst dX9_tryMove_89 ?_
      exact aw_iret dX9_tryMove_90 rfl (by rfl) rfl rfl (by decide) (by decide)
    · have g8 := g8
      refine aw_ild7 dX9_tryMove_30 ?_
      refine aw_ald0 dX9_tryMove_32 ?_
      refine aw_getf dX9_tryMove_33 hbf_X9_126 rfl rfl ?_
      refine aw_top (c9 := (n : Int)) hn ?_
      refine aw_icmp_ge (tg := 82) dX9_tryMove_36 (by decide) (by constructor <;> omega) (by constructor <;> omega) (fun c36 => absurd c36 (by omega)) (fun c36 => ?_)
      refine aw_ald0 dX9_tryMove_39 ?_
      refine aw_getf dX9_tryMove_40 hbf_X9_95 rfl rfl ?_
      refine aw_top (c9 := 2) rfl ?_
      refine aw_if_ne (tg := 82) dX9_tryMove_43 (by decide) (by decide) (fun c43 => ?_) (fun c43 => absurd c43 (by decide))
      refine aw_ald0 dX9_tryMove_82 ?_
      refine aw_getf dX9_tryMove_83 hbf_X9_95 rfl rfl ?_
      refine aw_top (c9 := 2) rfl ?_
      refine aw_if_eq (tg := 91) dX9_tryMove_86 (by decide) (by decide) (fun c86 => absurd c86 (by decide)) (fun c86 => ?_)
      refine aw_iconst dX9_tryMove_89 ?_
      exact aw_iret dX9_tryMove_90 rfl (by rfl) rfl rfl (by decide) (by decide)
  have key : ∀ (r e : Nat), e + r = e0 → hb_W l RX9 cX9_tryMove 9 (some .int) "tryMove" [] E z0 (hb_rm 6 0 0) σ0 (77 + na) (.inl (some (hb_i (0)))) (hb_w (hb_u2 G 47 0 2) F na) (77 + na) 0 0 30 [hb_r 47, hb_i 1, hb_i k, hb_i t, hb_i at9, hb_i a, hb_i b, hb_i (e : Int)] [] (hb_w (hb_u2 G 47 0 0) F na) (77 + na) := by
    intro r
    induction r with
    | zero =>
      intro e g0
      have e9 : e = e0 := by omega
      subst e9
      refine aw_ild7 dX9_tryMove_30 ?_
      refine aw_ald0 dX9_tryMove_32 ?_
      refine aw_getf dX9_tryMove_33 hbf_X9_126 rfl rfl ?_
      refine aw_top (c9 := (n : Int)) hn ?_
      refine aw_icmp_ge (tg := 82) dX9_tryMove_36 (by decide) (by constructor <;> omega) (by constructor <;> omega) (fun c36 => absurd c36 (by omega)) (fun c36 => ?_)
      refine aw_ald0 dX9_tryMove_39 ?_
      refine aw_getf dX9_tryMove_40 hbf_X9_95 rfl rfl ?_
      refine aw_top (c9 := 0) rfl ?_
      refine aw_if_ne (tg := 82) dX9_tryMove_43 (by decide) (by decide) (fun c43 => absurd c43 (by decide)) (fun c43 => ?_)
      refine aw_ald0 dX9_tryMove_46 ?_
      refine aw_ald0 dX9_tryMove_47 ?_
      refine aw_ild7 dX9_tryMove_48 ?_
      refine aw_V1v dX9_tryMove_50 (c_mIsMove (by omega) hG0) rfl rfl hbY_X9_isMove hbm_X9_129 hbi_X9_isMove hbe_X9_X9_isMove (Nat.le_of_ble_eq_true rfl) ⟨by decide, by decide⟩ (by decide) (by decide) ?_
      refine aw_ifb_eq (tg := 72) dX9_tryMove_53 (by decide) (fun c53 => absurd c53 (by exact fun h8 => h8 hv)) (fun c53 => ?_)
      refine aw_ald0 dX9_tryMove_56 ?_
      refine aw_getf dX9_tryMove_57 hbf_X9_65 rfl rfl ?_
      refine aw_ild7 dX9_tryMove_60 ?_
      refine aw_iald dX9_tryMove_62 rfl (by constructor <;> omega) (by decide) ?_
      refine aw_top (c9 := G 66 (e : Int)) rfl ?_
      refine aw_ild4 dX9_tryMove_63 ?_
      refine aw_icmp_ne (tg := 72) dX9_tryMove_65 (by decide) (hG _ _) iat (fun c65 => absurd c65 (by omega)) (fun c65 => ?_)
      refine aw_iconst dX9_tryMove_68 ?_
      refine aw_goto (tg := 73) dX9_tryMove_69 (by decide) ?_
      refine aw_putz (jz := 0) dX9_tryMove_73 hbf_X9_95 hbS_X9 (fun C T n h9 => by cases h9; exact ⟨rfl, by decide +kernel, fun h8 => by cases h8⟩) rfl rfl rfl rfl ?_
      refine aw_G (G2 := hb_u2 G 47 0 2) (hb_u2_u2 _ _ _ _ _) ?_
      refine aw_iinc7 dX9_tryMove_76 (by decide) ?_
      refine aw_goto (tg := 30) dX9_tryMove_79 (by decide) ?_
      exact kend e (by omega)
    | succ r ih =>
      intro e g0
      have g1 := hno e (by omega)
      refine aw_ild7 dX9_tryMove_30 ?_
      refine aw_ald0 dX9_tryMove_32 ?_
      refine aw_getf dX9_tryMove_33 hbf_X9_126 rfl rfl ?_
      refine aw_top (c9 := (n : Int)) hn ?_
      refine aw_icmp_ge (tg := 82) dX9_tryMove_36 (by decide) (by constructor <;> omega) (by constructor <;> omega) (fun c36 => absurd c36 (by omega)) (fun c36 => ?_)
      refine aw_ald0 dX9_tryMove_39 ?_
      refine aw_getf dX9_tryMove_40 hbf_X9_95 rfl rfl ?_
      refine aw_top (c9 := 0) rfl ?_
      refine aw_if_ne (tg := 82) dX9_tryMove_43 (by decide) (by decide) (fun c43 => absurd c43 (by decide)) (fun c43 => ?_)
      refine aw_ald0 dX9_tryMove_46 ?_
      refine aw_ald0 dX9_tryMove_47 ?_
      refine aw_ild7 dX9_tryMove_48 ?_
      refine aw_V1v dX9_tryMove_50 (c_mIsMove (by omega) hG0) rfl rfl hbY_X9_isMove hbm_X9_129 hbi_X9_isMove hbe_X9_X9_isMove (Nat.le_of_ble_eq_true rfl) ⟨by decide, by decide⟩ (by decide) (by decide) ?_
      refine aw_ifb_eq (tg := 72) dX9_tryMove_53 (by decide) (fun c53 => ?_) (fun c53 => ?_)
      · skip
        refine aw_iconst dX9_tryMove_72 ?_
        refine aw_putz (jz := 0) dX9_tryMove_73 hbf_X9_95 hbS_X9 (fun C T n h9 => by cases h9; exact ⟨rfl, by decide +kernel, fun h8 => by cases h8⟩) rfl rfl rfl rfl ?_
        refine aw_G (G2 := (hb_u2 G 47 0 0)) (hb_u2_u2 _ _ _ _ _) ?_
        refine aw_iinc7 dX9_tryMove_76 (by decide) ?_
        refine aw_goto (tg := 30) dX9_tryMove_79 (by decide) ?_
        exact ih (e + 1) (by omega)
      · skip
        refine aw_ald0 dX9_tryMove_56 ?_
        refine aw_getf dX9_tryMove_57 hbf_X9_65 rfl rfl ?_
        refine aw_ild7 dX9_tryMove_60 ?_
        refine aw_iald dX9_tryMove_62 rfl (by constructor <;> omega) (by decide) ?_
        refine aw_top (c9 := G 66 (e : Int)) rfl ?_
        refine aw_ild4 dX9_tryMove_63 ?_
        refine aw_icmp_ne (tg := 72) dX9_tryMove_65 (by decide) (hG _ _) iat (fun c65 => ?_) (fun c65 => absurd c65 (by exact fun h8 => g1 ⟨c53, h8⟩))
        refine aw_iconst dX9_tryMove_72 ?_
        refine aw_putz (jz := 0) dX9_tryMove_73 hbf_X9_95 hbS_X9 (fun C T n h9 => by cases h9; exact ⟨rfl, by decide +kernel, fun h8 => by cases h8⟩) rfl rfl rfl rfl ?_
        refine aw_G (G2 := (hb_u2 G 47 0 0)) (hb_u2_u2 _ _ _ _ _) ?_
        refine aw_iinc7 dX9_tryMove_76 (by decide) ?_
        refine aw_goto (tg := 30) dX9_tryMove_79 (by decide) ?_
        exact ih (e + 1) (by omega)
  refine aw_ald0 dX9_tryMove_0 ?_
  refine aw_ild1 dX9_tryMove_1 ?_
  refine aw_if_ne (tg := 9) dX9_tryMove_2 (by decide) (by decide) (fun c2 => ?_) (fun c2 => absurd c2 (by decide))
  refine aw_ald0 dX9_tryMove_9 ?_
  refine aw_getf dX9_tryMove_10 hbf_X9_126 rfl rfl ?_
  refine aw_sipush dX9_tryMove_13 (by decide) ?_
  refine aw_icmp_ne (tg := 23) dX9_tryMove_16 (by decide) (by first | exact hG _ _ | assumption | (constructor <;> omega)) (by first | exact hG _ _ | assumption | (constructor <;> omega)) (fun c16 => ?_) (fun c16 => absurd c16 (by omega))
  refine aw_iconst dX9_tryMove_23 ?_
  refine aw_putz (jz := 0) dX9_tryMove_24 hbf_X9_95 hbS_X9 (fun C T n h9 => by cases h9; exact ⟨rfl, by decide +kernel, fun h8 => by cases h8⟩) rfl rfl rfl rfl ?_
  refine aw_iconst dX9_tryMove_27 ?_
  refine aw_ipu7 dX9_tryMove_28 (by decide) ?_
  exact key e0 0 (by omega)
set_option maxRecDepth 20000 in
set_option maxHeartbeats 1000000 in
theorem c_mTryY {l : Launch} {G : hb_G} {F : hb_F} {na : Nat} {k t at9 a b : Int} (iat : hb_in at9) {n : Nat} (hn : G 47 17 = n) (hn2 : n < 200) (hno : ∀ e : Nat, e < n → ¬ (hb_jv (hb_u2 G 47 0 0) e ∧ G 66 (e : Int) = at9)) {G1 : hb_G} (hC : hb_M l yX9_check cX9_check 3 (some .boolean) 5 0 0 [hb_r 47] (hb_w (hb_je (hb_u2 G 47 0 0) k t at9 a b 0) F na) (77 + na) (.inl (some (hb_i (1)))) (hb_w G1 F na) (77 + na)) (hG : hb_rg G) : hb_M l yX9_tryMove cX9_tryMove 9 (some .int) 6 0 0 [hb_r 47, hb_i 1, hb_i k, hb_i t, hb_i at9, hb_i a, hb_i b] (hb_w G F na) (77 + na) (.inl (some (hb_i (G 47 17 + 1 - 1)))) (hb_w G1 F na) (77 + na) := by
  refine hb_M_in rfl rfl (by decide) rfl (Nat.le_of_ble_eq_true rfl) ?_
  intro E z0 σ0
  have hG0 : hb_rg (hb_u2 G 47 0 0) := hG.u2 (by decide)
  have key : ∀ (r e : Nat), e + r = n → hb_W l RX9 cX9_tryMove 9 (some .int) "tryMove" [] E z0 (hb_rm 6 0 0) σ0 (77 + na) (.inl (some (hb_i (G 47 17 + 1 - 1)))) (hb_w G1 F na) (77 + na) 0 0 30 [hb_r 47, hb_i 1, hb_i k, hb_i t, hb_i at9, hb_i a, hb_i b, hb_i (e : Int)] [] (hb_w (hb_u2 G 47 0 0) F na) (77 + na) := by
    intro r
    induction r with
    | zero =>
      intro e g0
      have e9 : e = n := by omega
      subst e9
      refine aw_ild7 dX9_tryMove_30 ?_
      refine aw_ald0 dX9_tryMove_32 ?_
      refine aw_getf dX9_tryMove_33 hbf_X9_126 rfl rfl ?_
      refine aw_top (c9 := (e : Int)) hn ?_
      refine aw_icmp_ge (tg := 82) dX9_tryMove_36 (by decide) (by constructor <;> omega) (by constructor <;> omega) (fun c36 => ?_) (fun c36 => absurd c36 (by omega))
      refine aw_ald0 dX9_tryMove_82 ?_
      refine aw_getf dX9_tryMove_83 hbf_X9_95 rfl rfl ?_
      refine aw_top (c9 := 0) rfl ?_
      refine aw_if_eq (tg := 91) dX9_tryMove_86 (by decide) (by decide) (fun c86 => ?_) (fun c86 => absurd c86 (by decide))
      refine aw_ald0 dX9_tryMove_91 ?_
      refine aw_ild2 dX9_tryMove_92 ?_
      refine aw_ild3 dX9_tryMove_93 ?_
      refine aw_ild4 dX9_tryMove_94 ?_
      refine aw_ild5 dX9_tryMove_96 ?_
      refine aw_ild6 dX9_tryMove_98 ?_
      refine aw_iconst dX9_tryMove_100 ?_
      refine aw_V6v dX9_tryMove_101 (c_mEnter (G := (hb_u2 G 47 0 0)) (show 0 ≤ G 47 17 ∧ G 47 17 < 201 by omega)) rfl rfl hbY_X9_enter hbm_X9_170 hbi_X9_enter hbe_X9_X9_enter (Nat.le_of_ble_eq_true rfl) ⟨by decide, by decide⟩ (by decide) (by decide) ?_
      refine aw_ist7 dX9_tryMove_104 (by decide) ?_
      refine aw_ald0 dX9_tryMove_106 ?_
      refine aw_V0v dX9_tryMove_107 hC rfl rfl hbY_X9_check hbm_X9_174 hbi_X9_check hbe_X9_X9_check (Nat.le_of_ble_eq_true rfl) ⟨by decide, by decide⟩ (by decide) (by decide) ?_
      refine aw_if_eq (tg := 116) dX9_tryMove_110 (by decide) (by decide) (fun c110 => absurd c110 (by decide)) (fun c110 => ?_)
      refine aw_ild7 dX9_tryMove_113 ?_
      exact aw_iret dX9_tryMove_115 rfl (by first | rfl | exact congrArg (fun z => (Sum.inl (some (hb_i z)) : hb_O)) (by omega)) rfl rfl (by decide) (by decide)
    | succ r ih =>
      intro e g0
      have g1 := hno e (by omega)
      refine aw_ild7 dX9_tryMove_30 ?_
      refine aw_ald0 dX9_tryMove_32 ?_
      refine aw_getf dX9_tryMove_33 hbf_X9_126 rfl rfl ?_
      refine aw_top (c9 := (n : Int)) hn ?_
      refine aw_icmp_ge (tg := 82) dX9_tryMove_36 (by decide) (by constructor <;> omega) (by constructor <;> omega) (fun c36 => absurd c36 (by omega)) (fun c36 => ?_)
      refine aw_ald0 dX9_tryMove_39 ?_
      refine aw_getf dX9_tryMove_40 hbf_X9_95 rfl rfl ?_
      refine aw_top (c9 := 0) rfl ?_
      refine aw_if_ne (tg := 82) dX9_tryMove_43 (by decide) (by decide) (fun c43 => absurd c43 (by decide)) (fun c43 => ?_)
      refine aw_ald0 dX9_tryMove_46 ?_
      refine aw_ald0 dX9_tryMove_47 ?_
      refine aw_ild7 dX9_tryMove_48 ?_
      refine aw_V1v dX9_tryMove_50 (c_mIsMove (by omega) hG0) rfl rfl hbY_X9_isMove hbm_X9_129 hbi_X9_isMove hbe_X9_X9_isMove (Nat.le_of_ble_eq_true rfl) ⟨by decide, by decide⟩ (by decide) (by decide) ?_
      refine aw_ifb_eq (tg := 72) dX9_tryMove_53 (by decide) (fun c53 => ?_) (fun c53 => ?_)
      · skip
        refine aw_iconst dX9_tryMove_72 ?_
        refine aw_putz (jz := 0) dX9_tryMove_73 hbf_X9_95 hbS_X9 (fun C T n h9 => by cases h9; exact ⟨rfl, by decide +kernel, fun h8 => by cases h8⟩) rfl rfl rfl rfl ?_
        refine aw_G (G2 := (hb_u2 G 47 0 0)) (hb_u2_u2 _ _ _ _ _) ?_
        refine aw_iinc7 dX9_tryMove_76 (by decide) ?_
        refine aw_goto (tg := 30) dX9_tryMove_79 (by decide) ?_
        exact ih (e + 1) (by omega)
      · skip
        refine aw_ald0 dX9_tryMove_56 ?_
        refine aw_getf dX9_tryMove_57 hbf_X9_65 rfl rfl ?_
        refine aw_ild7 dX9_tryMove_60 ?_
        refine aw_iald dX9_tryMove_62 rfl (by constructor <;> omega) (by decide) ?_
        refine aw_top (c9 := G 66 (e : Int)) rfl ?_
        refine aw_ild4 dX9_tryMove_63 ?_
        refine aw_icmp_ne (tg := 72) dX9_tryMove_65 (by decide) (hG _ _) iat (fun c65 => ?_) (fun c65 => absurd c65 (by exact fun h8 => g1 ⟨c53, h8⟩))
        refine aw_iconst dX9_tryMove_72 ?_
        refine aw_putz (jz := 0) dX9_tryMove_73 hbf_X9_95 hbS_X9 (fun C T n h9 => by cases h9; exact ⟨rfl, by decide +kernel, fun h8 => by cases h8⟩) rfl rfl rfl rfl ?_
        refine aw_G (G2 := (hb_u2 G 47 0 0)) (hb_u2_u2 _ _ _ _ _) ?_
        refine aw_iinc7 dX9_tryMove_76 (by decide) ?_
        refine aw_goto (tg := 30) dX9_tryMove_79 (by decide) ?_
        exact ih (e + 1) (by omega)
  refine aw_ald0 dX9_tryMove_0 ?_
  refine aw_ild1 dX9_tryMove_1 ?_
  refine aw_if_ne (tg := 9) dX9_tryMove_2 (by decide) (by decide) (fun c2 => ?_) (fun c2 => absurd c2 (by decide))
  refine aw_ald0 dX9_tryMove_9 ?_
  refine aw_getf dX9_tryMove_10 hbf_X9_126 rfl rfl ?_
  refine aw_sipush dX9_tryMove_13 (by decide) ?_
  refine aw_icmp_ne (tg := 23) dX9_tryMove_16 (by decide) (by first | exact hG _ _ | assumption | (constructor <;> omega)) (by first | exact hG _ _ | assumption | (constructor <;> omega)) (fun c16 => ?_) (fun c16 => absurd c16 (by omega))
  refine aw_iconst dX9_tryMove_23 ?_
  refine aw_putz (jz := 0) dX9_tryMove_24 hbf_X9_95 hbS_X9 (fun C T n h9 => by cases h9; exact ⟨rfl, by decide +kernel, fun h8 => by cases h8⟩) rfl rfl rfl rfl ?_
  refine aw_iconst dX9_tryMove_27 ?_
  refine aw_ipu7 dX9_tryMove_28 (by decide) ?_
  exact key n 0 (by omega)
set_option maxRecDepth 20000 in
set_option maxHeartbeats 1000000 in
theorem c_mTryN {l : Launch} {G : hb_G} {F : hb_F} {na : Nat} {k t at9 a b : Int} (iat : hb_in at9) {n : Nat} (hn : G 47 17 = n) (hn2 : n < 200) (hno : ∀ e : Nat, e < n → ¬ (hb_jv (hb_u2 G 47 0 0) e ∧ G 66 (e : Int) = at9)) {G1 G3 : hb_G} {r9 : Int} (hC : hb_M l yX9_check cX9_check 3 (some .boolean) 5 0 0 [hb_r 47] (hb_w (hb_je (hb_u2 G 47 0 0) k t at9 a b 0) F na) (77 + na) (.inl (some (hb_i (0)))) (hb_w G1 F na) (77 + na)) (hC2 : hb_M l yX9_check cX9_check 3 (some .boolean) 5 0 0 [hb_r 47] (hb_w (hb_u2 (hb_u2 (hb_u2 G1 47 17 (G1 47 17 - 1)) 47 18 (G1 47 18 - 1)) 64 (G 47 17 + 1 - 1) 0) F na) (77 + na) (.inl (some (hb_i (r9)))) (hb_w G3 F na) (77 + na)) (hG : hb_rg G) : hb_M l yX9_tryMove cX9_tryMove 9 (some .int) 6 0 0 [hb_r 47, hb_i 1, hb_i k, hb_i t, hb_i at9, hb_i a, hb_i b] (hb_w G F na) (77 + na) (.inl (some (hb_i (0)))) (hb_w (hb_u2 G3 47 0 2) F na) (77 + na) := by
  refine hb_M_in rfl rfl (by decide) rfl (Nat.le_of_ble_eq_true rfl) ?_
  intro E z0 σ0
  have hG0 : hb_rg (hb_u2 G 47 0 0) := hG.u2 (by decide)
  have key : ∀ (r e : Nat), e + r = n → hb_W l RX9 cX9_tryMove 9 (some .int) "tryMove" [] E z0 (hb_rm 6 0 0) σ0 (77 + na) (.inl (some (hb_i (0)))) (hb_w (hb_u2 G3 47 0 2) F na) (77 + na) 0 0 30 [hb_r 47, hb_i 1, hb_i k, hb_i t, hb_i at9, hb_i a, hb_i b, hb_i (e : Int)] [] (hb_w (hb_u2 G 47 0 0) F na) (77 + na) := by
    intro r
    induction r with
    | zero =>
      intro e g0
      have e9 : e = n := by omega
      subst e9
      refine aw_ild7 dX9_tryMove_30 ?_
      refine aw_ald0 dX9_tryMove_32 ?_
      refine aw_getf dX9_tryMove_33 hbf_X9_126 rfl rfl ?_
      refine aw_top (c9 := (e : Int)) hn ?_
      refine aw_icmp_ge (tg := 82) dX9_tryMove_36 (by decide) (by constructor <;> omega) (by constructor <;> omega) (fun c36 => ?_) (fun c36 => absurd c36 (by omega))
      refine aw_ald0 dX9_tryMove_82 ?_
      refine aw_getf dX9_tryMove_83 hbf_X9_95 rfl rfl ?_
      refine aw_top (c9 := 0) rfl ?_
      refine aw_if_eq (tg := 91) dX9_tryMove_86 (by decide) (by decide) (fun c86 => ?_) (fun c86 => absurd c86 (by decide))
      refine aw_ald0 dX9_tryMove_91 ?_
      refine aw_ild2 dX9_tryMove_92 ?_
      refine aw_ild3 dX9_tryMove_93 ?_
      refine aw_ild4 dX9_tryMove_94 ?_
      refine aw_ild5 dX9_tryMove_96 ?_
      refine aw_ild6 dX9_tryMove_98 ?_
      refine aw_iconst dX9_tryMove_100 ?_
      refine aw_V6v dX9_tryMove_101 (c_mEnter (G := (hb_u2 G 47 0 0)) (show 0 ≤ G 47 17 ∧ G 47 17 < 201 by omega)) rfl rfl hbY_X9_enter hbm_X9_170 hbi_X9_enter hbe_X9_X9_enter (Nat.le_of_ble_eq_true rfl) ⟨by decide, by decide⟩ (by decide) (by decide) ?_
      refine aw_ist7 dX9_tryMove_104 (by decide) ?_
      refine aw_ald0 dX9_tryMove_106 ?_
      refine aw_V0v dX9_tryMove_107 hC rfl rfl hbY_X9_check hbm_X9_174 hbi_X9_check hbe_X9_X9_check (Nat.le_of_ble_eq_true rfl) ⟨by decide, by decide⟩ (by decide) (by decide) ?_
      refine aw_if_eq (tg := 116) dX9_tryMove_110 (by decide) (by decide) (fun c110 => ?_) (fun c110 => absurd c110 (by decide))
      refine aw_ald0 dX9_tryMove_116 ?_
      refine aw_dup dX9_tryMove_117 rfl ?_
      refine aw_getf dX9_tryMove_118 hbf_X9_126 rfl rfl ?_
      refine aw_iconst dX9_tryMove_121 ?_
      refine aw_isub dX9_tryMove_122 ?_
      refine aw_putz (jz := 17) dX9_tryMove_123 hbf_X9_126 hbS_X9 (fun C T n h9 => by cases h9; exact ⟨rfl, by decide +kernel, fun h8 => by cases h8⟩) rfl rfl rfl rfl ?_
      refine aw_ald0 dX9_tryMove_126 ?_
      refine aw_dup dX9_tryMove_127 rfl ?_
      refine aw_getf dX9_tryMove_128 hbf_X9_167 rfl rfl ?_
      refine aw_top (c9 := G1 47 18) rfl ?_
      refine aw_iconst dX9_tryMove_131 ?_
      refine aw_isub dX9_tryMove_132 ?_
      refine aw_putz (jz := 18) dX9_tryMove_133 hbf_X9_167 hbS_X9 (fun C T n h9 => by cases h9; exact ⟨rfl, by decide +kernel, fun h8 => by cases h8⟩) rfl rfl rfl rfl ?_
      refine aw_ald0 dX9_tryMove_136 ?_
      refine aw_getf dX9_tryMove_137 hbf_X9_58 rfl rfl ?_
      refine aw_ild7 dX9_tryMove_140 ?_
      refine aw_iconst dX9_tryMove_142 ?_
      refine aw_zastw dX9_tryMove_143 (fun _ => rfl) rfl (show 0 ≤ G 47 17 + 1 - 1 ∧ G 47 17 + 1 - 1 < ((201 : Nat) : Int) by omega) (by decide) (by omega) ?_
      refine aw_ald0 dX9_tryMove_144 ?_
      refine aw_V0v dX9_tryMove_145 hC2 rfl rfl hbY_X9_check hbm_X9_174 hbi_X9_check hbe_X9_X9_check (Nat.le_of_ble_eq_true rfl) ⟨by decide, by decide⟩ (by decide) (by decide) ?_
      refine aw_ipu8 dX9_tryMove_148 (by decide) ?_
      refine aw_ald0 dX9_tryMove_150 ?_
      refine aw_iconst dX9_tryMove_151 ?_
      refine aw_putz (jz := 0) dX9_tryMove_152 hbf_X9_95 hbS_X9 (fun C T n h9 => by cases h9; exact ⟨rfl, by decide +kernel, fun h8 => by cases h8⟩) rfl rfl rfl rfl ?_
      refine aw_iconst dX9_tryMove_155 ?_
      exact aw_iret dX9_tryMove_156 rfl (by first | rfl | exact congrArg (fun z => (Sum.inl (some (hb_i z)) : hb_O)) (by omega)) rfl rfl (by decide) (by decide)
    | succ r ih =>
      intro e g0
      have g1 := hno e (by omega)
      refine aw_ild7 dX9_tryMove_30 ?_
      refine aw_ald0 dX9_tryMove_32 ?_
      refine aw_getf dX9_tryMove_33 hbf_X9_126 rfl rfl ?_
      refine aw_top (c9 := (n : Int)) hn ?_
      refine aw_icmp_ge (tg := 82) dX9_tryMove_36 (by decide) (by constructor <;> omega) (by constructor <;> omega) (fun c36 => absurd c36 (by omega)) (fun c36 => ?_)
      refine aw_ald0 dX9_tryMove_39 ?_
      refine aw_getf dX9_tryMove_40 hbf_X9_95 rfl rfl ?_
      refine aw_top (c9 := 0) rfl ?_
      refine aw_if_ne (tg := 82) dX9_tryMove_43 (by decide) (by decide) (fun c43 => absurd c43 (by decide)) (fun c43 => ?_)
      refine aw_ald0 dX9_tryMove_46 ?_
      refine aw_ald0 dX9_tryMove_47 ?_
      refine aw_ild7 dX9_tryMove_48 ?_
      refine aw_V1v dX9_tryMove_50 (c_mIsMove (by omega) hG0) rfl rfl hbY_X9_isMove hbm_X9_129 hbi_X9_isMove hbe_X9_X9_isMove (Nat.le_of_ble_eq_true rfl) ⟨by decide, by decide⟩ (by decide) (by decide) ?_
      refine aw_ifb_eq (tg := 72) dX9_tryMove_53 (by decide) (fun c53 => ?_) (fun c53 => ?_)
      · skip
        refine aw_iconst dX9_tryMove_72 ?_
        refine aw_putz (jz := 0) dX9_tryMove_73 hbf_X9_95 hbS_X9 (fun C T n h9 => by cases h9; exact ⟨rfl, by decide +kernel, fun h8 => by cases h8⟩) rfl rfl rfl rfl ?_
        refine aw_G (G2 := (hb_u2 G 47 0 0)) (hb_u2_u2 _ _ _ _ _) ?_
        refine aw_iinc7 dX9_tryMove_76 (by decide) ?_
        refine aw_goto (tg := 30) dX9_tryMove_79 (by decide) ?_
        exact ih (e + 1) (by omega)
      · skip
        refine aw_ald0 dX9_tryMove_56 ?_
        refine aw_getf dX9_tryMove_57 hbf_X9_65 rfl rfl ?_
        refine aw_ild7 dX9_tryMove_60 ?_
        refine aw_iald dX9_tryMove_62 rfl (by constructor <;> omega) (by decide) ?_
        refine aw_top (c9 := G 66 (e : Int)) rfl ?_
        refine aw_ild4 dX9_tryMove_63 ?_
        refine aw_icmp_ne (tg := 72) dX9_tryMove_65 (by decide) (hG _ _) iat (fun c65 => ?_) (fun c65 => absurd c65 (by exact fun h8 => g1 ⟨c53, h8⟩))
        refine aw_iconst dX9_tryMove_72 ?_
        refine aw_putz (jz := 0) dX9_tryMove_73 hbf_X9_95 hbS_X9 (fun C T n h9 => by cases h9; exact ⟨rfl, by decide +kernel, fun h8 => by cases h8⟩) rfl rfl rfl rfl ?_
        refine aw_G (G2 := (hb_u2 G 47 0 0)) (hb_u2_u2 _ _ _ _ _) ?_
        refine aw_iinc7 dX9_tryMove_76 (by decide) ?_
        refine aw_goto (tg := 30) dX9_tryMove_79 (by decide) ?_
        exact ih (e + 1) (by omega)
  refine aw_ald0 dX9_tryMove_0 ?_
  refine aw_ild1 dX9_tryMove_1 ?_
  refine aw_if_ne (tg := 9) dX9_tryMove_2 (by decide) (by decide) (fun c2 => ?_) (fun c2 => absurd c2 (by decide))
  refine aw_ald0 dX9_tryMove_9 ?_
  refine aw_getf dX9_tryMove_10 hbf_X9_126 rfl rfl ?_
  refine aw_sipush dX9_tryMove_13 (by decide) ?_
  refine aw_icmp_ne (tg := 23) dX9_tryMove_16 (by decide) (by first | exact hG _ _ | assumption | (constructor <;> omega)) (by first | exact hG _ _ | assumption | (constructor <;> omega)) (fun c16 => ?_) (fun c16 => absurd c16 (by omega))
  refine aw_iconst dX9_tryMove_23 ?_
  refine aw_putz (jz := 0) dX9_tryMove_24 hbf_X9_95 hbS_X9 (fun C T n h9 => by cases h9; exact ⟨rfl, by decide +kernel, fun h8 => by cases h8⟩) rfl rfl rfl rfl ?_
  refine aw_iconst dX9_tryMove_27 ?_
  refine aw_ipu7 dX9_tryMove_28 (by decide) ?_
  exact key n 0 (by omega)

section HBV
variable {l : Launch} {own : String} {cc : ByteArray} {nL : Nat} {ret : Option FieldType} {nm : String} {tb : List ExceptionTableEntry} {E : hb_E} {z0 : Heap} {R : Room} {σ0 : Nat → Nat} {N0 : Nat} {o : hb_O} {h' : hb_H} {N' : Nat} {kc ks pc : Nat} {ls st : List hb_V} {h : hb_H} {N : Nat}
theorem aw_V7v {a1 a2 a3 a4 a5 a6 a7 w : hb_V} {ix d ny ci q n : Nat} {y : MethodName} {cy : ByteArray} {ry : Option FieldType} {C : String} {T : u_T} {fs : List hb_V} {h2 : hb_H} (hd : decode cc pc = .ok (.invokevirtual ix, 3)) (hM : hb_M l y cy ny ry d 0 0 (hb_r q :: [a1, a2, a3, a4, a5, a6, a7]) h N (.inl (some w)) h2 N) (hq : h q = .inl (ci, fs)) (hcl : vwCl[ci]? = some (C, T, n)) (hy : hb_Y y cy ny ry 7) (hlk : Cond.methodLink own ix y ∈ hb_ws) (hin : Cond.instanceMethod y ∈ hb_ws) (hse : Cond.selects C y y ∈ hb_ws) (hcs : hb_cs st ≤ 8) (hro : d + 1 ≤ R.frames ∧ 8 + (ny + 11) + 36 * d ≤ R.locals) (hkc : kc ≤ R.cells) (hks : ks ≤ R.slots) (k : hb_W l own cc nL ret nm tb E z0 R σ0 N0 o h' N' kc ks (pc + 3) ls (w :: st) h2 N) : hb_W l own cc nL ret nm tb E z0 R σ0 N0 o h' N' kc ks pc ls (a7 :: a6 :: a5 :: a4 :: a3 :: a2 :: a1 :: hb_r q :: st) h N := aw_callV (As := [a1, a2, a3, a4, a5, a6, a7]) (rest := st) hd hM hq hcl hy hlk hin hse hcs hro hkc hks hb_nw.rf hb_nw.rf k
end HBV
theorem hb_u2_u2 (G : hb_G) (p : Nat) (i v w : Int) : hb_u2 (hb_u2 G p i v) p i w = hb_u2 G p i w := by
  funext q
  unfold hb_u2 hb_u1
  by_cases e : q = p
  · rw [if_pos e, if_pos e, if_pos rfl]
    funext j
    unfold hb_uf
    by_cases e2 : j = i
    · rw [if_pos e2, if_pos e2]
    · rw [if_neg e2, if_neg e2, if_neg e2]
  · rw [if_neg e, if_neg e, if_neg e]
/-- a new entry of the reference -/
def hb_je (G : hb_G) (k t at9 a b c : Int) : hb_G := hb_u2 (hb_u2 (hb_u2 (hb_u2 (hb_u2 (hb_u2 (hb_u2 (hb_u2 (hb_u2 G 63 (G 47 17) k) 64 (G 47 17) 1) 65 (G 47 17) t) 66 (G 47 17) at9) 67 (G 47 17) a) 68 (G 47 17) b) 69 (G 47 17) c) 47 17 (G 47 17 + 1)) 47 18 (G 47 18 + 1)
set_option maxRecDepth 20000 in
set_option maxHeartbeats 1000000 in
theorem c_mEnter {l : Launch} {G : hb_G} {F : hb_F} {na : Nat} {k t at9 a b c : Int} (hn : 0 ≤ G 47 17 ∧ G 47 17 < 201) : hb_M l yX9_enter cX9_enter 7 (some .int) 0 0 0 [hb_r 47, hb_i k, hb_i t, hb_i at9, hb_i a, hb_i b, hb_i c] (hb_w G F na) (77 + na) (.inl (some (hb_i (G 47 17 + 1 - 1)))) (hb_w (hb_je G k t at9 a b c) F na) (77 + na) := by
  refine hb_M_in rfl rfl (by decide) rfl (Nat.le_of_ble_eq_true rfl) ?_
  intro E z0 σ0
  refine aw_ald0 dX9_enter_0 ?_
  refine aw_getf dX9_enter_1 hbf_X9_55 rfl rfl ?_
  refine aw_ald0 dX9_enter_4 ?_
  refine aw_getf dX9_enter_5 hbf_X9_126 rfl rfl ?_
  refine aw_top (c9 := G 47 17) rfl ?_
  refine aw_ild1 dX9_enter_8 ?_
  refine aw_iastw dX9_enter_9 (fun _ => rfl) rfl (by constructor <;> omega) (by decide) ?_
  refine aw_ald0 dX9_enter_10 ?_
  refine aw_getf dX9_enter_11 hbf_X9_58 rfl rfl ?_
  refine aw_ald0 dX9_enter_14 ?_
  refine aw_getf dX9_enter_15 hbf_X9_126 rfl rfl ?_
  refine aw_top (c9 := G 47 17) rfl ?_
  refine aw_iconst dX9_enter_18 ?_
  refine aw_zastw dX9_enter_19 (fun _ => rfl) rfl (by constructor <;> omega) (by decide) (by omega) ?_
  refine aw_ald0 dX9_enter_20 ?_
  refine aw_getf dX9_enter_21 hbf_X9_62 rfl rfl ?_
  refine aw_ald0 dX9_enter_24 ?_
  refine aw_getf dX9_enter_25 hbf_X9_126 rfl rfl ?_
  refine aw_top (c9 := G 47 17) rfl ?_
  refine aw_ild2 dX9_enter_28 ?_
  refine aw_iastw dX9_enter_29 (fun _ => rfl) rfl (by constructor <;> omega) (by decide) ?_
  refine aw_ald0 dX9_enter_30 ?_
  refine aw_getf dX9_enter_31 hbf_X9_65 rfl rfl ?_
  refine aw_ald0 dX9_enter_34 ?_
  refine aw_getf dX9_enter_35 hbf_X9_126 rfl rfl ?_
  refine aw_top (c9 := G 47 17) rfl ?_
  refine aw_ild3 dX9_enter_38 ?_
  refine aw_iastw dX9_enter_39 (fun _ => rfl) rfl (by constructor <;> omega) (by decide) ?_
  refine aw_ald0 dX9_enter_40 ?_
  refine aw_getf dX9_enter_41 hbf_X9_68 rfl rfl ?_
  refine aw_ald0 dX9_enter_44 ?_
  refine aw_getf dX9_enter_45 hbf_X9_126 rfl rfl ?_
  refine aw_top (c9 := G 47 17) rfl ?_
  refine aw_ild4 dX9_enter_48 ?_
  refine aw_iastw dX9_enter_50 (fun _ => rfl) rfl (by constructor <;> omega) (by decide) ?_
  refine aw_ald0 dX9_enter_51 ?_
  refine aw_getf dX9_enter_52 hbf_X9_71 rfl rfl ?_
  refine aw_ald0 dX9_enter_55 ?_
  refine aw_getf dX9_enter_56 hbf_X9_126 rfl rfl ?_
  refine aw_top (c9 := G 47 17) rfl ?_
  refine aw_ild5 dX9_enter_59 ?_
  refine aw_iastw dX9_enter_61 (fun _ => rfl) rfl (by constructor <;> omega) (by decide) ?_
  refine aw_ald0 dX9_enter_62 ?_
  refine aw_getf dX9_enter_63 hbf_X9_74 rfl rfl ?_
  refine aw_ald0 dX9_enter_66 ?_
  refine aw_getf dX9_enter_67 hbf_X9_126 rfl rfl ?_
  refine aw_top (c9 := G 47 17) rfl ?_
  refine aw_ild6 dX9_enter_70 ?_
  refine aw_iastw dX9_enter_72 (fun _ => rfl) rfl (by constructor <;> omega) (by decide) ?_
  refine aw_ald0 dX9_enter_73 ?_
  refine aw_dup dX9_enter_74 rfl ?_
  refine aw_getf dX9_enter_75 hbf_X9_126 rfl rfl ?_
  refine aw_top (c9 := G 47 17) rfl ?_
  refine aw_iconst dX9_enter_78 ?_
  refine aw_iadd dX9_enter_79 ?_
  refine aw_putz (jz := 17) dX9_enter_80 hbf_X9_126 hbS_X9 (fun C T n h9 => by cases h9; exact ⟨rfl, by decide +kernel, fun h8 => by cases h8⟩) rfl rfl rfl rfl ?_
  refine aw_ald0 dX9_enter_83 ?_
  refine aw_dup dX9_enter_84 rfl ?_
  refine aw_getf dX9_enter_85 hbf_X9_167 rfl rfl ?_
  refine aw_top (c9 := G 47 18) rfl ?_
  refine aw_iconst dX9_enter_88 ?_
  refine aw_iadd dX9_enter_89 ?_
  refine aw_putz (jz := 18) dX9_enter_90 hbf_X9_167 hbS_X9 (fun C T n h9 => by cases h9; exact ⟨rfl, by decide +kernel, fun h8 => by cases h8⟩) rfl rfl rfl rfl ?_
  refine aw_ald0 dX9_enter_93 ?_
  refine aw_getf dX9_enter_94 hbf_X9_126 rfl rfl ?_
  refine aw_iconst dX9_enter_97 ?_
  refine aw_isub dX9_enter_98 ?_
  exact aw_iret dX9_enter_99 rfl (by rfl) rfl rfl (by decide) (by decide)
set_option maxRecDepth 20000 in
set_option maxHeartbeats 1000000 in
theorem c_mNote0 {l : Launch} {G : hb_G} {F : hb_F} {na : Nat} {k t at9 a b c : Int}  : hb_M l yX9_note cX9_note 8 (some .int) 1 0 0 [hb_r 47, hb_i 0, hb_i k, hb_i t, hb_i at9, hb_i a, hb_i b, hb_i c] (hb_w G F na) (77 + na) (.inl (some (hb_i (0)))) (hb_w (hb_u2 G 47 0 1) F na) (77 + na) := by
  refine hb_M_in rfl rfl (by decide) rfl (Nat.le_of_ble_eq_true rfl) ?_
  intro E z0 σ0
  refine aw_ald0 dX9_note_0 ?_
  refine aw_ild1 dX9_note_1 ?_
  refine aw_if_ne (tg := 9) dX9_note_2 (by decide) (by decide) (fun c2 => absurd c2 (by decide)) (fun c2 => ?_)
  refine aw_iconst dX9_note_5 ?_
  refine aw_goto (tg := 24) dX9_note_6 (by decide) ?_
  refine aw_putz (jz := 0) dX9_note_24 hbf_X9_95 hbS_X9 (fun C T n h9 => by cases h9; exact ⟨rfl, by decide +kernel, fun h8 => by cases h8⟩) rfl rfl rfl rfl ?_
  refine aw_ald0 dX9_note_27 ?_
  refine aw_getf dX9_note_28 hbf_X9_95 rfl rfl ?_
  refine aw_top (c9 := 1) rfl ?_
  refine aw_if_eq (tg := 38) dX9_note_31 (by decide) (by decide) (fun c31 => absurd c31 (by decide)) (fun c31 => ?_)
  refine aw_iconst dX9_note_34 ?_
  refine aw_goto (tg := 52) dX9_note_35 (by decide) ?_
  exact aw_iret dX9_note_52 rfl (by rfl) rfl rfl (by decide) (by decide)
set_option maxRecDepth 20000 in
set_option maxHeartbeats 1000000 in
theorem c_mNote2 {l : Launch} {G : hb_G} {F : hb_F} {na : Nat} {k t at9 a b c : Int} (hn : G 47 17 = 200) (hG : hb_rg G) : hb_M l yX9_note cX9_note 8 (some .int) 1 0 0 [hb_r 47, hb_i 1, hb_i k, hb_i t, hb_i at9, hb_i a, hb_i b, hb_i c] (hb_w G F na) (77 + na) (.inl (some (hb_i (0)))) (hb_w (hb_u2 G 47 0 2) F na) (77 + na) := by
  refine hb_M_in rfl rfl (by decide) rfl (Nat.le_of_ble_eq_true rfl) ?_
  intro E z0 σ0
  refine aw_ald0 dX9_note_0 ?_
  refine aw_ild1 dX9_note_1 ?_
  refine aw_if_ne (tg := 9) dX9_note_2 (by decide) (by decide) (fun c2 => ?_) (fun c2 => absurd c2 (by decide))
  refine aw_ald0 dX9_note_9 ?_
  refine aw_getf dX9_note_10 hbf_X9_126 rfl rfl ?_
  refine aw_sipush dX9_note_13 (by decide) ?_
  refine aw_icmp_ne (tg := 23) dX9_note_16 (by decide) (by first | exact hG _ _ | assumption | (constructor <;> omega)) (by first | exact hG _ _ | assumption | (constructor <;> omega)) (fun c16 => absurd c16 (by omega)) (fun c16 => ?_)
  refine aw_iconst dX9_note_19 ?_
  refine aw_goto (tg := 24) dX9_note_20 (by decide) ?_
  refine aw_putz (jz := 0) dX9_note_24 hbf_X9_95 hbS_X9 (fun C T n h9 => by cases h9; exact ⟨rfl, by decide +kernel, fun h8 => by cases h8⟩) rfl rfl rfl rfl ?_
  refine aw_ald0 dX9_note_27 ?_
  refine aw_getf dX9_note_28 hbf_X9_95 rfl rfl ?_
  refine aw_top (c9 := 2) rfl ?_
  refine aw_if_eq (tg := 38) dX9_note_31 (by decide) (by decide) (fun c31 => absurd c31 (by decide)) (fun c31 => ?_)
  refine aw_iconst dX9_note_34 ?_
  refine aw_goto (tg := 52) dX9_note_35 (by decide) ?_
  exact aw_iret dX9_note_52 rfl (by rfl) rfl rfl (by decide) (by decide)
set_option maxRecDepth 20000 in
set_option maxHeartbeats 1000000 in
theorem c_mNoteY {l : Launch} {G : hb_G} {F : hb_F} {na : Nat} {k t at9 a b c : Int} (hn : 0 ≤ G 47 17 ∧ G 47 17 < 201) (hn2 : G 47 17 ≠ 200) (hG : hb_rg G) : hb_M l yX9_note cX9_note 8 (some .int) 1 0 0 [hb_r 47, hb_i 1, hb_i k, hb_i t, hb_i at9, hb_i a, hb_i b, hb_i c] (hb_w G F na) (77 + na) (.inl (some (hb_i (G 47 17 + 1 - 1)))) (hb_w (hb_je (hb_u2 G 47 0 0) k t at9 a b c) F na) (77 + na) := by
  refine hb_M_in rfl rfl (by decide) rfl (Nat.le_of_ble_eq_true rfl) ?_
  intro E z0 σ0
  refine aw_ald0 dX9_note_0 ?_
  refine aw_ild1 dX9_note_1 ?_
  refine aw_if_ne (tg := 9) dX9_note_2 (by decide) (by decide) (fun c2 => ?_) (fun c2 => absurd c2 (by decide))
  refine aw_ald0 dX9_note_9 ?_
  refine aw_getf dX9_note_10 hbf_X9_126 rfl rfl ?_
  refine aw_sipush dX9_note_13 (by decide) ?_
  refine aw_icmp_ne (tg := 23) dX9_note_16 (by decide) (by first | exact hG _ _ | assumption | (constructor <;> omega)) (by first | exact hG _ _ | assumption | (constructor <;> omega)) (fun c16 => ?_) (fun c16 => absurd c16 (by omega))
  refine aw_iconst dX9_note_23 ?_
  refine aw_putz (jz := 0) dX9_note_24 hbf_X9_95 hbS_X9 (fun C T n h9 => by cases h9; exact ⟨rfl, by decide +kernel, fun h8 => by cases h8⟩) rfl rfl rfl rfl ?_
  refine aw_ald0 dX9_note_27 ?_
  refine aw_getf dX9_note_28 hbf_X9_95 rfl rfl ?_
  refine aw_top (c9 := 0) rfl ?_
  refine aw_if_eq (tg := 38) dX9_note_31 (by decide) (by decide) (fun c31 => ?_) (fun c31 => absurd c31 (by decide))
  refine aw_ald0 dX9_note_38 ?_
  refine aw_ild2 dX9_note_39 ?_
  refine aw_ild3 dX9_note_40 ?_
  refine aw_ild4 dX9_note_41 ?_
  refine aw_ild5 dX9_note_43 ?_
  refine aw_ild6 dX9_note_45 ?_
  refine aw_ild7 dX9_note_47 ?_
  refine aw_V6v dX9_note_49 (c_mEnter (G := hb_u2 G 47 0 0) hn) rfl rfl hbY_X9_enter hbm_X9_170 hbi_X9_enter hbe_X9_X9_enter (Nat.le_of_ble_eq_true rfl) ⟨by decide, by decide⟩ (by decide) (by decide) ?_
  exact aw_iret dX9_note_52 rfl (by rfl) rfl rfl (by decide) (by decide)
set_option maxRecDepth 20000 in
set_option maxHeartbeats 1000000 in
theorem c_mArrange {l : Launch} {G : hb_G} {F : hb_F} {na : Nat} {pt : Int} {SS : Nat → hb_G} {mv : Nat → Int} {m n : Nat} (ip : hb_in pt) (hn : n ≤ 201) (h0 : (hb_u1 (hb_u1 G 71 (hb_fl (G 71) 40 (-1))) 72 (hb_fl (G 72) 40 (-1))) = SS 0) (hR : ∀ j, j ≤ m → hb_rg (SS j)) (hm : m ≤ n) (hN : ∀ j, j ≤ m → SS j 47 26 = n) (hV : ∀ j, j ≤ m → j < n → SS j 70 j = mv j ∧ 0 ≤ mv j ∧ mv j < 201) (hgo : ∀ j, j < m → SS j 66 (mv j) ≤ pt) (hst : m = n ∨ (m < n ∧ pt < SS m 66 (mv m))) (hM : ∀ j, j < m → hb_M l yX9_move cX9_move 6 (some .boolean) 2 0 0 [hb_r 47, hb_i (mv j)] (hb_w (SS j) F na) (77 + na) (.inl (some (hb_i (1)))) (hb_w (SS (j + 1)) F na) (77 + na))  : hb_M l yX9_arrange cX9_arrange 3 (some .boolean) 3 0 0 [hb_r 47, hb_i pt] (hb_w G F na) (77 + na) (.inl (some (hb_i (1)))) (hb_w (SS m) F na) (77 + na) := by
  refine hb_M_in rfl rfl (by decide) rfl (Nat.le_of_ble_eq_true rfl) ?_
  intro E z0 σ0
  have key : ∀ (r j : Nat), j + r = m → hb_W l RX9 cX9_arrange 3 (some .boolean) "arrange" [] E z0 (hb_rm 3 0 0) σ0 (77 + na) (.inl (some (hb_i (1)))) (hb_w (SS m) F na) (77 + na) 0 0 6 [hb_r 47, hb_i pt, hb_i (j : Int)] [] (hb_w (SS j) F na) (77 + na) := by
    intro r
    induction r with
    | zero =>
      intro j g0
      have e9 : j = m := by omega
      subst e9
      have a1 := hN j (by omega)
      have hG := hR j (by omega)
      rcases hst with h8 | ⟨h8, h7⟩
      · have h8 := h8
        refine aw_ild2 dX9_arrange_6 ?_
        refine aw_ald0 dX9_arrange_7 ?_
        refine aw_getf dX9_arrange_8 hbf_X9_123 rfl rfl ?_
        refine aw_icmp_ge (tg := 52) dX9_arrange_11 (by decide) (by constructor <;> omega) (by constructor <;> omega) (fun c11 => ?_) (fun c11 => absurd c11 (by omega))
        refine aw_iconst dX9_arrange_52 ?_
        exact aw_zret dX9_arrange_53 rfl (by first | omega | exact hb_b01 _) (by rfl) rfl rfl (by decide) (by decide)
      · have a2 := hV j (by omega) h8
        refine aw_ild2 dX9_arrange_6 ?_
        refine aw_ald0 dX9_arrange_7 ?_
        refine aw_getf dX9_arrange_8 hbf_X9_123 rfl rfl ?_
        refine aw_icmp_ge (tg := 52) dX9_arrange_11 (by decide) (by constructor <;> omega) (by constructor <;> omega) (fun c11 => absurd c11 (by omega)) (fun c11 => ?_)
        refine aw_ald0 dX9_arrange_14 ?_
        refine aw_getf dX9_arrange_15 hbf_X9_65 rfl rfl ?_
        refine aw_ald0 dX9_arrange_18 ?_
        refine aw_getf dX9_arrange_19 hbf_X9_77 rfl rfl ?_
        refine aw_ild2 dX9_arrange_22 ?_
        refine aw_iald dX9_arrange_23 rfl (by constructor <;> omega) (by decide) ?_
        refine aw_top (c9 := mv j) a2.1 ?_
        refine aw_iald dX9_arrange_24 rfl (by constructor <;> omega) (by decide) ?_
        refine aw_ild1 dX9_arrange_25 ?_
        refine aw_icmp_le (tg := 31) dX9_arrange_26 (by decide) (hG _ _) ip (fun c26 => absurd c26 (by omega)) (fun c26 => ?_)
        refine aw_iconst dX9_arrange_29 ?_
        exact aw_zret dX9_arrange_30 rfl (by first | omega | exact hb_b01 _) (by rfl) rfl rfl (by decide) (by decide)
    | succ r ih =>
      intro j g0
      have a1 := hN j (by omega)
      have hG := hR j (by omega)
      have a2 := hV j (by omega) (by omega)
      have a3 := hgo j (by omega)
      refine aw_ild2 dX9_arrange_6 ?_
      refine aw_ald0 dX9_arrange_7 ?_
      refine aw_getf dX9_arrange_8 hbf_X9_123 rfl rfl ?_
      refine aw_icmp_ge (tg := 52) dX9_arrange_11 (by decide) (by constructor <;> omega) (by constructor <;> omega) (fun c11 => absurd c11 (by omega)) (fun c11 => ?_)
      refine aw_ald0 dX9_arrange_14 ?_
      refine aw_getf dX9_arrange_15 hbf_X9_65 rfl rfl ?_
      refine aw_ald0 dX9_arrange_18 ?_
      refine aw_getf dX9_arrange_19 hbf_X9_77 rfl rfl ?_
      refine aw_ild2 dX9_arrange_22 ?_
      refine aw_iald dX9_arrange_23 rfl (by constructor <;> omega) (by decide) ?_
      refine aw_top (c9 := mv j) a2.1 ?_
      refine aw_iald dX9_arrange_24 rfl (by constructor <;> omega) (by decide) ?_
      refine aw_ild1 dX9_arrange_25 ?_
      refine aw_icmp_le (tg := 31) dX9_arrange_26 (by decide) (hG _ _) ip (fun c26 => ?_) (fun c26 => absurd c26 (by omega))
      refine aw_ald0 dX9_arrange_31 ?_
      refine aw_ald0 dX9_arrange_32 ?_
      refine aw_getf dX9_arrange_33 hbf_X9_77 rfl rfl ?_
      refine aw_ild2 dX9_arrange_36 ?_
      refine aw_iald dX9_arrange_37 rfl (by constructor <;> omega) (by decide) ?_
      refine aw_top (c9 := mv j) a2.1 ?_
      refine aw_V1v dX9_arrange_38 (hM j (by omega)) rfl rfl hbY_X9_move hbm_X9_150 hbi_X9_move hbe_X9_X9_move (Nat.le_of_ble_eq_true rfl) ⟨by decide, by decide⟩ (by decide) (by decide) ?_
      refine aw_if_ne (tg := 46) dX9_arrange_41 (by decide) (by decide) (fun c41 => ?_) (fun c41 => absurd c41 (by decide))
      refine aw_iinc2 dX9_arrange_46 (by decide) ?_
      refine aw_goto (tg := 6) dX9_arrange_49 (by decide) ?_
      exact ih (j + 1) (by omega)
  refine aw_ald0 dX9_arrange_0 ?_
  refine aw_V0n dX9_arrange_1 (c_mNothing ) rfl rfl hbY_X9_nothingHangs hbm_X9_147 hbi_X9_nothingHangs hbe_X9_X9_nothingHangs (Nat.le_of_ble_eq_true rfl) ⟨by decide, by decide⟩ (by decide) (by decide) ?_
  refine aw_iconst dX9_arrange_4 ?_
  refine aw_ipu2 dX9_arrange_5 (by decide) ?_
  refine aw_G h0 ?_
  exact key m 0 (by omega)
/-- the machine that a thing hangs in, as the reference's tree stands -/
noncomputable def hb_mo (S : hb_G) (t : Int) : Int := @ite Int (S 51 t = -1) (Classical.propDecidable _) (-1) (@ite Int (hb_jm S (hb_tp (S 71) 4 t)) (Classical.propDecidable _) (hb_tp (S 71) 4 t) (-1))
noncomputable def hb_r1 (S : hb_G) (e : Int) (n : Nat) : hb_G := match n with
  | 0 => S
  | t + 1 => hb_u2 (hb_r1 S e t) 73 (40 * e + t) (hb_mo (hb_r1 S e t) t)
def hb_rq (S : hb_G) (e a b : Int) : Prop := S 64 e ≠ 0 ∧ S 63 e = 0 ∧ a ≤ S 66 e ∧ S 66 e < b
noncomputable def hb_r2 (S : hb_G) (a b : Int) (n : Nat) : hb_G := match n with
  | 0 => S
  | e + 1 => @ite hb_G (hb_rq (hb_r2 S a b e) e a b) (Classical.propDecidable _) (hb_r1 (hb_r2 S a b e) e 40) (hb_r2 S a b e)
theorem hb_r2_y {S : hb_G} {a b : Int} {e : Nat} (h : hb_rq (hb_r2 S a b e) e a b) : hb_r2 S a b (e + 1) = hb_r1 (hb_r2 S a b e) e 40 := by
  conv => lhs; unfold hb_r2
  exact if_pos h
theorem hb_r2_n {S : hb_G} {a b : Int} {e : Nat} (h : ¬ hb_rq (hb_r2 S a b e) e a b) : hb_r2 S a b (e + 1) = hb_r2 S a b e := by
  conv => lhs; unfold hb_r2
  exact if_neg h
theorem hb_mo_n {S : hb_G} {t : Int} (h : S 51 t = -1) : hb_mo S t = -1 := by unfold hb_mo; exact if_pos h
theorem hb_mo_y {S : hb_G} {t : Int} (h : S 51 t ≠ -1) (h2 : hb_jm S (hb_tp (S 71) 4 t)) : hb_mo S t = hb_tp (S 71) 4 t := by unfold hb_mo; rw [if_neg h]; exact if_pos h2
theorem hb_mo_z {S : hb_G} {t : Int} (h : S 51 t ≠ -1) (h2 : ¬ hb_jm S (hb_tp (S 71) 4 t)) : hb_mo S t = -1 := by unfold hb_mo; rw [if_neg h]; exact if_neg h2
/-- what machineOf wants of the state -/
def hb_mq (S : hb_G) : Prop := hb_rg S ∧ hb_tr (S 71) ∧ ∀ t, 0 ≤ t ∧ t < 40 → hb_en (S 71) 4 t
set_option maxRecDepth 20000 in
set_option maxHeartbeats 1000000 in
theorem c_mRecord {l : Launch} {G : hb_G} {F : hb_F} {na : Nat} {a b : Int} {n : Nat} (ia : hb_in a) (ib : hb_in b) (hn : n ≤ 200) (hN : ∀ e, e ≤ n → hb_r2 G a b e 47 17 = n) (hQ : ∀ e, e ≤ n → hb_mq (hb_r2 G a b e)) (hQ1 : ∀ e t, e < n → t ≤ 40 → hb_mq (hb_r1 (hb_r2 G a b e) e t)) : hb_M l yX9_record cX9_record 5 none 4 0 0 [hb_r 47, hb_i a, hb_i b] (hb_w G F na) (77 + na) (.inl none) (hb_w (hb_r2 G a b n) F na) (77 + na) := by
  refine hb_M_in rfl rfl (by decide) rfl (Nat.le_of_ble_eq_true rfl) ?_
  intro E z0 σ0
  have key : ∀ (r e : Nat), e + r = n → hb_W l RX9 cX9_record 5 none "record" [] E z0 (hb_rm 4 0 0) σ0 (77 + na) (.inl none) (hb_w (hb_r2 G a b n) F na) (77 + na) 0 0 2 [hb_r 47, hb_i a, hb_i b, hb_i (e : Int)] [] (hb_w (hb_r2 G a b e) F na) (77 + na) := by
    intro r
    induction r with
    | zero =>
      intro e g0
      have e9 : e = n := by omega
      subst e9
      have a1 := hN e (by omega)
      refine aw_ild3 dX9_record_2 ?_
      refine aw_ald0 dX9_record_3 ?_
      refine aw_getf dX9_record_4 hbf_X9_126 rfl rfl ?_
      refine aw_icmp_ge (tg := 106) dX9_record_7 (by decide) (by constructor <;> omega) (by constructor <;> omega) (fun c7 => ?_) (fun c7 => absurd c7 (by omega))
      exact aw_vret dX9_record_106 rfl rfl rfl rfl (by decide) (by decide)
    | succ r ih =>
      intro e g0
      have a1 := hN e (by omega)
      have hG := (hQ e (by omega)).1
      have h9 := ih (e + 1) (by omega)
      have key2 : ∀ (q t : Nat), t + q = 40 → hb_rq (hb_r2 G a b e) e a b → hb_W l RX9 cX9_record 5 none "record" [] E z0 (hb_rm 4 0 0) σ0 (77 + na) (.inl none) (hb_w (hb_r2 G a b n) F na) (77 + na) 0 0 54 [hb_r 47, hb_i a, hb_i b, hb_i (e : Int), hb_i (t : Int)] [] (hb_w (hb_r1 (hb_r2 G a b e) e t) F na) (77 + na) := by
        intro q
        induction q with
        | zero =>
          intro t g1 g2
          have e9 : t = 40 := by omega
          subst e9
          rw [hb_r2_y g2] at h9
          refine aw_ild4 dX9_record_54 ?_
          refine aw_bipush dX9_record_56 (by decide) ?_
          refine aw_icmp_ge (tg := 100) dX9_record_58 (by decide) (by first | exact hG _ _ | assumption | (constructor <;> omega)) (by first | exact hG _ _ | assumption | (constructor <;> omega)) (fun c58 => ?_) (fun c58 => absurd c58 (by omega))
          refine aw_iinc3 dX9_record_100 (by decide) ?_
          refine aw_goto (tg := 2) dX9_record_103 (by decide) ?_
          refine aw_dk_4_1 ?_
          exact h9
        | succ q ih2 =>
          intro t g1 g2
          obtain ⟨hG, hp, hen⟩ := hQ1 e t (by omega) (by omega)
          rcases Classical.em ((hb_r1 (hb_r2 G a b e) e t) 51 t = -1) with c1 | c1
          · have c1 := c1
            refine aw_ild4 dX9_record_54 ?_
            refine aw_bipush dX9_record_56 (by decide) ?_
            refine aw_icmp_ge (tg := 100) dX9_record_58 (by decide) (by first | exact hG _ _ | assumption | (constructor <;> omega)) (by first | exact hG _ _ | assumption | (constructor <;> omega)) (fun c58 => absurd c58 (by omega)) (fun c58 => ?_)
            refine aw_ald0 dX9_record_61 ?_
            refine aw_getf dX9_record_62 hbf_X9_86 rfl rfl ?_
            refine aw_bipush dX9_record_65 (by decide) ?_
            refine aw_ild3 dX9_record_67 ?_
            refine aw_imul dX9_record_68 ?_
            refine aw_ild4 dX9_record_69 ?_
            refine aw_iadd dX9_record_71 ?_
            refine aw_ald0 dX9_record_72 ?_
            refine aw_getf dX9_record_73 hbf_X9_19 rfl rfl ?_
            refine aw_ild4 dX9_record_76 ?_
            refine aw_iald dX9_record_78 rfl (by constructor <;> omega) (by decide) ?_
            refine aw_iconst dX9_record_79 ?_
            refine aw_icmp_ne (tg := 87) dX9_record_80 (by decide) (by first | exact hG _ _ | assumption | (constructor <;> omega)) (by first | exact hG _ _ | assumption | (constructor <;> omega)) (fun c80 => absurd c80 (by omega)) (fun c80 => ?_)
            refine aw_iconst dX9_record_83 ?_
            refine aw_goto (tg := 93) dX9_record_84 (by decide) ?_
            refine aw_iastw dX9_record_93 (fun _ => rfl) rfl (by constructor <;> omega) (by decide) ?_
            refine aw_iinc4 dX9_record_94 (by decide) ?_
            refine aw_goto (tg := 54) dX9_record_97 (by decide) ?_
            refine aw_G (G2 := hb_r1 (hb_r2 G a b e) e (t + 1)) (by conv => rhs; unfold hb_r1; rw [hb_mo_n c1]) ?_
            exact ih2 (t + 1) (by omega) g2
          · rcases Classical.em (hb_jm (hb_r1 (hb_r2 G a b e) e t) (hb_tp ((hb_r1 (hb_r2 G a b e) e t) 71) 4 t)) with c2 | c2
            · have c2 := c2
              refine aw_ild4 dX9_record_54 ?_
              refine aw_bipush dX9_record_56 (by decide) ?_
              refine aw_icmp_ge (tg := 100) dX9_record_58 (by decide) (by first | exact hG _ _ | assumption | (constructor <;> omega)) (by first | exact hG _ _ | assumption | (constructor <;> omega)) (fun c58 => absurd c58 (by omega)) (fun c58 => ?_)
              refine aw_ald0 dX9_record_61 ?_
              refine aw_getf dX9_record_62 hbf_X9_86 rfl rfl ?_
              refine aw_bipush dX9_record_65 (by decide) ?_
              refine aw_ild3 dX9_record_67 ?_
              refine aw_imul dX9_record_68 ?_
              refine aw_ild4 dX9_record_69 ?_
              refine aw_iadd dX9_record_71 ?_
              refine aw_ald0 dX9_record_72 ?_
              refine aw_getf dX9_record_73 hbf_X9_19 rfl rfl ?_
              refine aw_ild4 dX9_record_76 ?_
              refine aw_iald dX9_record_78 rfl (by constructor <;> omega) (by decide) ?_
              refine aw_iconst dX9_record_79 ?_
              refine aw_icmp_ne (tg := 87) dX9_record_80 (by decide) (by first | exact hG _ _ | assumption | (constructor <;> omega)) (by first | exact hG _ _ | assumption | (constructor <;> omega)) (fun c80 => ?_) (fun c80 => absurd c80 (by omega))
              refine aw_ald0 dX9_record_87 ?_
              refine aw_ild4 dX9_record_88 ?_
              refine aw_V1v dX9_record_90 (c_mMachineOfY (by omega) c2 hp hen hG) rfl rfl hbY_X9_machineOf hbm_X9_156 hbi_X9_machineOf hbe_X9_X9_machineOf (Nat.le_of_ble_eq_true rfl) ⟨by decide, by decide⟩ (by decide) (by decide) ?_
              refine aw_iastw dX9_record_93 (fun _ => rfl) rfl (by constructor <;> omega) (by decide) ?_
              refine aw_iinc4 dX9_record_94 (by decide) ?_
              refine aw_goto (tg := 54) dX9_record_97 (by decide) ?_
              refine aw_G (G2 := hb_r1 (hb_r2 G a b e) e (t + 1)) (by conv => rhs; unfold hb_r1; rw [hb_mo_y c1 c2]) ?_
              exact ih2 (t + 1) (by omega) g2
            · have c2 := c2
              refine aw_ild4 dX9_record_54 ?_
              refine aw_bipush dX9_record_56 (by decide) ?_
              refine aw_icmp_ge (tg := 100) dX9_record_58 (by decide) (by first | exact hG _ _ | assumption | (constructor <;> omega)) (by first | exact hG _ _ | assumption | (constructor <;> omega)) (fun c58 => absurd c58 (by omega)) (fun c58 => ?_)
              refine aw_ald0 dX9_record_61 ?_
              refine aw_getf dX9_record_62 hbf_X9_86 rfl rfl ?_
              refine aw_bipush dX9_record_65 (by decide) ?_
              refine aw_ild3 dX9_record_67 ?_
              refine aw_imul dX9_record_68 ?_
              refine aw_ild4 dX9_record_69 ?_
              refine aw_iadd dX9_record_71 ?_
              refine aw_ald0 dX9_record_72 ?_
              refine aw_getf dX9_record_73 hbf_X9_19 rfl rfl ?_
              refine aw_ild4 dX9_record_76 ?_
              refine aw_iald dX9_record_78 rfl (by constructor <;> omega) (by decide) ?_
              refine aw_iconst dX9_record_79 ?_
              refine aw_icmp_ne (tg := 87) dX9_record_80 (by decide) (by first | exact hG _ _ | assumption | (constructor <;> omega)) (by first | exact hG _ _ | assumption | (constructor <;> omega)) (fun c80 => ?_) (fun c80 => absurd c80 (by omega))
              refine aw_ald0 dX9_record_87 ?_
              refine aw_ild4 dX9_record_88 ?_
              refine aw_V1v dX9_record_90 (c_mMachineOfN (by omega) c2 hp hen hG) rfl rfl hbY_X9_machineOf hbm_X9_156 hbi_X9_machineOf hbe_X9_X9_machineOf (Nat.le_of_ble_eq_true rfl) ⟨by decide, by decide⟩ (by decide) (by decide) ?_
              refine aw_iastw dX9_record_93 (fun _ => rfl) rfl (by constructor <;> omega) (by decide) ?_
              refine aw_iinc4 dX9_record_94 (by decide) ?_
              refine aw_goto (tg := 54) dX9_record_97 (by decide) ?_
              refine aw_G (G2 := hb_r1 (hb_r2 G a b e) e (t + 1)) (by conv => rhs; unfold hb_r1; rw [hb_mo_z c1 c2]) ?_
              exact ih2 (t + 1) (by omega) g2
      refine aw_ild3 dX9_record_2 ?_
      refine aw_ald0 dX9_record_3 ?_
      refine aw_getf dX9_record_4 hbf_X9_126 rfl rfl ?_
      refine aw_icmp_ge (tg := 106) dX9_record_7 (by decide) (by constructor <;> omega) (by constructor <;> omega) (fun c7 => absurd c7 (by omega)) (fun c7 => ?_)
      refine aw_ald0 dX9_record_10 ?_
      refine aw_getf dX9_record_11 hbf_X9_58 rfl rfl ?_
      refine aw_ild3 dX9_record_14 ?_
      refine aw_zald dX9_record_15 rfl (by constructor <;> omega) (by decide) ?_
      refine aw_if_eq (tg := 100) dX9_record_16 (by decide) (by first | exact hG _ _ | assumption | (constructor <;> omega)) (fun c16 => ?_) (fun c16 => ?_)
      · skip
        refine aw_iinc3 dX9_record_100 (by decide) ?_
        refine aw_goto (tg := 2) dX9_record_103 (by decide) ?_
        rw [hb_r2_n (S := G) (a := a) (b := b) (e := e) (fun h8 => by obtain ⟨b1, b2, b3, b4⟩ := h8; omega)] at h9
        exact h9
      · skip
        refine aw_ald0 dX9_record_19 ?_
        refine aw_getf dX9_record_20 hbf_X9_55 rfl rfl ?_
        refine aw_ild3 dX9_record_23 ?_
        refine aw_iald dX9_record_24 rfl (by constructor <;> omega) (by decide) ?_
        refine aw_if_ne (tg := 100) dX9_record_25 (by decide) (by first | exact hG _ _ | assumption | (constructor <;> omega)) (fun c25 => ?_) (fun c25 => ?_)
        · skip
          refine aw_iinc3 dX9_record_100 (by decide) ?_
          refine aw_goto (tg := 2) dX9_record_103 (by decide) ?_
          rw [hb_r2_n (S := G) (a := a) (b := b) (e := e) (fun h8 => by obtain ⟨b1, b2, b3, b4⟩ := h8; omega)] at h9
          exact h9
        · skip
          refine aw_ald0 dX9_record_28 ?_
          refine aw_getf dX9_record_29 hbf_X9_65 rfl rfl ?_
          refine aw_ild3 dX9_record_32 ?_
          refine aw_iald dX9_record_33 rfl (by constructor <;> omega) (by decide) ?_
          refine aw_ild1 dX9_record_34 ?_
          refine aw_icmp_lt (tg := 100) dX9_record_35 (by decide) (by first | exact hG _ _ | assumption | (constructor <;> omega)) (by first | exact hG _ _ | assumption | (constructor <;> omega)) (fun c35 => ?_) (fun c35 => ?_)
          · skip
            refine aw_iinc3 dX9_record_100 (by decide) ?_
            refine aw_goto (tg := 2) dX9_record_103 (by decide) ?_
            rw [hb_r2_n (S := G) (a := a) (b := b) (e := e) (fun h8 => by obtain ⟨b1, b2, b3, b4⟩ := h8; omega)] at h9
            exact h9
          · skip
            refine aw_ald0 dX9_record_38 ?_
            refine aw_getf dX9_record_39 hbf_X9_65 rfl rfl ?_
            refine aw_ild3 dX9_record_42 ?_
            refine aw_iald dX9_record_43 rfl (by constructor <;> omega) (by decide) ?_
            refine aw_ild2 dX9_record_44 ?_
            refine aw_icmp_lt (tg := 51) dX9_record_45 (by decide) (by first | exact hG _ _ | assumption | (constructor <;> omega)) (by first | exact hG _ _ | assumption | (constructor <;> omega)) (fun c45 => ?_) (fun c45 => ?_)
            · skip
              refine aw_iconst dX9_record_51 ?_
              refine aw_ipu4 dX9_record_52 (by decide) ?_
              exact key2 40 0 (by omega) ⟨by omega, by omega, by omega, by omega⟩
            · skip
              refine aw_goto (tg := 100) dX9_record_48 (by decide) ?_
              refine aw_iinc3 dX9_record_100 (by decide) ?_
              refine aw_goto (tg := 2) dX9_record_103 (by decide) ?_
              rw [hb_r2_n (S := G) (a := a) (b := b) (e := e) (fun h8 => by obtain ⟨b1, b2, b3, b4⟩ := h8; omega)] at h9
              exact h9
  refine aw_iconst dX9_record_0 ?_
  refine aw_ipu3 dX9_record_1 (by decide) ?_
  exact key n 0 (by omega)
set_option maxRecDepth 20000 in
set_option maxHeartbeats 1000000 in
theorem c_mCheckY {l : Launch} {G : hb_G} {F : hb_F} {na : Nat} {SS RR : Nat → hb_G} {mv : Nat → Int} {pq : Nat → Int} {n : Nat} (hn : n ≤ 200) {G1 : hb_G} (hS : hb_M l yX9_sortMoves cX9_sortMoves 3 none 1 0 0 [hb_r 47] (hb_w G F na) (77 + na) (.inl none) (hb_w G1 F na) (77 + na)) (h0 : hb_u1 (hb_u1 G1 71 (hb_fl (G1 71) 40 (-1))) 72 (hb_fl (G1 72) 40 (-1)) = SS 0) (hp0 : pq 0 = 0) (hN : ∀ j, j ≤ n → SS j 47 26 = n ∧ (j < n → (SS j 70 j = mv j ∧ 0 ≤ mv j ∧ mv j < 201) ∧ SS j 66 (mv j) = pq (j + 1) ∧ RR j 70 j = mv j ∧ RR j 66 (mv j) = pq (j + 1))) (hr : ∀ j, j < n → hb_M l yX9_record cX9_record 5 none 4 0 0 [hb_r 47, hb_i (pq j), hb_i (pq (j + 1))] (hb_w (SS j) F na) (77 + na) (.inl none) (hb_w (RR j) F na) (77 + na)) (hM : ∀ j, j < n → hb_M l yX9_move cX9_move 6 (some .boolean) 2 0 0 [hb_r 47, hb_i (mv j)] (hb_w (RR j) F na) (77 + na) (.inl (some (hb_i (1)))) (hb_w (SS (j + 1)) F na) (77 + na)) {G3 : hb_G} (hE : hb_M l yX9_record cX9_record 5 none 4 0 0 [hb_r 47, hb_i (pq n), hb_i 3000100] (hb_w (SS n) F na) (77 + na) (.inl none) (hb_w G3 F na) (77 + na)) : hb_M l yX9_check cX9_check 3 (some .boolean) 5 0 0 [hb_r 47] (hb_w G F na) (77 + na) (.inl (some (hb_i (1)))) (hb_w G3 F na) (77 + na) := by
  refine hb_M_in rfl rfl (by decide) rfl (Nat.le_of_ble_eq_true rfl) ?_
  intro E z0 σ0
  have key : ∀ (r j : Nat), j + r = n → hb_W l RX9 cX9_check 3 (some .boolean) "check" [] E z0 (hb_rm 5 0 0) σ0 (77 + na) (.inl (some (hb_i (1)))) (hb_w G3 F na) (77 + na) 0 0 12 [hb_r 47, hb_i (pq j), hb_i (j : Int)] [] (hb_w (SS j) F na) (77 + na) := by
    intro r
    induction r with
    | zero =>
      intro j g0
      have e9 : j = n := by omega
      subst e9
      have a1 := hN j (by omega)
      refine aw_ild2 dX9_check_12 ?_
      refine aw_ald0 dX9_check_13 ?_
      refine aw_getf dX9_check_14 hbf_X9_123 rfl rfl ?_
      refine aw_icmp_ge (tg := 69) dX9_check_17 (by decide) (by constructor <;> omega) (by constructor <;> omega) (fun c17 => ?_) (fun c17 => absurd c17 (by omega))
      refine aw_ald0 dX9_check_69 ?_
      refine aw_ild1 dX9_check_70 ?_
      refine aw_ldc (z := 3000100) dX9_check_71 hbk_X9_166 ?_
      refine aw_V2n dX9_check_73 hE rfl rfl hbY_X9_record hbm_X9_162 hbi_X9_record hbe_X9_X9_record (Nat.le_of_ble_eq_true rfl) ⟨by decide, by decide⟩ (by decide) (by decide) ?_
      refine aw_iconst dX9_check_76 ?_
      exact aw_zret dX9_check_77 rfl (by first | omega | exact hb_b01 _) (by rfl) rfl rfl (by decide) (by decide)
    | succ r ih =>
      intro j g0
      have a1 := hN j (by omega)
      have a2 := a1.2 (by omega)
      refine aw_ild2 dX9_check_12 ?_
      refine aw_ald0 dX9_check_13 ?_
      refine aw_getf dX9_check_14 hbf_X9_123 rfl rfl ?_
      refine aw_icmp_ge (tg := 69) dX9_check_17 (by decide) (by constructor <;> omega) (by constructor <;> omega) (fun c17 => absurd c17 (by omega)) (fun c17 => ?_)
      refine aw_ald0 dX9_check_20 ?_
      refine aw_ild1 dX9_check_21 ?_
      refine aw_ald0 dX9_check_22 ?_
      refine aw_getf dX9_check_23 hbf_X9_65 rfl rfl ?_
      refine aw_ald0 dX9_check_26 ?_
      refine aw_getf dX9_check_27 hbf_X9_77 rfl rfl ?_
      refine aw_ild2 dX9_check_30 ?_
      refine aw_iald dX9_check_31 rfl (by constructor <;> omega) (by decide) ?_
      refine aw_top (c9 := mv j) a2.1.1 ?_
      refine aw_iald dX9_check_32 rfl (by constructor <;> omega) (by decide) ?_
      refine aw_top (c9 := pq (j + 1)) a2.2.1 ?_
      refine aw_V2n dX9_check_33 (hr j (by omega)) rfl rfl hbY_X9_record hbm_X9_162 hbi_X9_record hbe_X9_X9_record (Nat.le_of_ble_eq_true rfl) ⟨by decide, by decide⟩ (by decide) (by decide) ?_
      refine aw_ald0 dX9_check_36 ?_
      refine aw_getf dX9_check_37 hbf_X9_65 rfl rfl ?_
      refine aw_ald0 dX9_check_40 ?_
      refine aw_getf dX9_check_41 hbf_X9_77 rfl rfl ?_
      refine aw_ild2 dX9_check_44 ?_
      refine aw_iald dX9_check_45 rfl (by constructor <;> omega) (by decide) ?_
      refine aw_top (c9 := mv j) a2.2.2.1 ?_
      refine aw_iald dX9_check_46 rfl (by constructor <;> omega) (by decide) ?_
      refine aw_top (c9 := pq (j + 1)) a2.2.2.2 ?_
      refine aw_ist1 dX9_check_47 (by decide) ?_
      refine aw_ald0 dX9_check_48 ?_
      refine aw_ald0 dX9_check_49 ?_
      refine aw_getf dX9_check_50 hbf_X9_77 rfl rfl ?_
      refine aw_ild2 dX9_check_53 ?_
      refine aw_iald dX9_check_54 rfl (by constructor <;> omega) (by decide) ?_
      refine aw_top (c9 := mv j) a2.2.2.1 ?_
      refine aw_V1v dX9_check_55 (hM j (by omega)) rfl rfl hbY_X9_move hbm_X9_150 hbi_X9_move hbe_X9_X9_move (Nat.le_of_ble_eq_true rfl) ⟨by decide, by decide⟩ (by decide) (by decide) ?_
      refine aw_if_ne (tg := 63) dX9_check_58 (by decide) (by decide) (fun c58 => ?_) (fun c58 => absurd c58 (by decide))
      refine aw_iinc2 dX9_check_63 (by decide) ?_
      refine aw_goto (tg := 12) dX9_check_66 (by decide) ?_
      exact ih (j + 1) (by omega)
  refine aw_ald0 dX9_check_0 ?_
  refine aw_V0n dX9_check_1 hS rfl rfl hbY_X9_sortMoves hbm_X9_159 hbi_X9_sortMoves hbe_X9_X9_sortMoves (Nat.le_of_ble_eq_true rfl) ⟨by decide, by decide⟩ (by decide) (by decide) ?_
  refine aw_ald0 dX9_check_4 ?_
  refine aw_V0n dX9_check_5 (c_mNothing ) rfl rfl hbY_X9_nothingHangs hbm_X9_147 hbi_X9_nothingHangs hbe_X9_X9_nothingHangs (Nat.le_of_ble_eq_true rfl) ⟨by decide, by decide⟩ (by decide) (by decide) ?_
  refine aw_iconst dX9_check_8 ?_
  refine aw_ipu1 dX9_check_9 (by decide) ?_
  refine aw_iconst dX9_check_10 ?_
  refine aw_ipu2 dX9_check_11 (by decide) ?_
  have h8 := key n 0 (by omega)
  rw [hp0] at h8
  exact aw_G h0 h8
set_option maxRecDepth 20000 in
set_option maxHeartbeats 1000000 in
theorem c_mCheckN {l : Launch} {G : hb_G} {F : hb_F} {na : Nat} {m : Nat} {SS RR : Nat → hb_G} {mv : Nat → Int} {pq : Nat → Int} {n : Nat} (hn : n ≤ 200) {G1 : hb_G} (hS : hb_M l yX9_sortMoves cX9_sortMoves 3 none 1 0 0 [hb_r 47] (hb_w G F na) (77 + na) (.inl none) (hb_w G1 F na) (77 + na)) (h0 : hb_u1 (hb_u1 G1 71 (hb_fl (G1 71) 40 (-1))) 72 (hb_fl (G1 72) 40 (-1)) = SS 0) (hp0 : pq 0 = 0) (hN : ∀ j, j ≤ m → SS j 47 26 = n ∧ (j < n → (SS j 70 j = mv j ∧ 0 ≤ mv j ∧ mv j < 201) ∧ SS j 66 (mv j) = pq (j + 1) ∧ RR j 70 j = mv j ∧ RR j 66 (mv j) = pq (j + 1))) (hr : ∀ j, j ≤ m → hb_M l yX9_record cX9_record 5 none 4 0 0 [hb_r 47, hb_i (pq j), hb_i (pq (j + 1))] (hb_w (SS j) F na) (77 + na) (.inl none) (hb_w (RR j) F na) (77 + na)) (hM : ∀ j, j < m → hb_M l yX9_move cX9_move 6 (some .boolean) 2 0 0 [hb_r 47, hb_i (mv j)] (hb_w (RR j) F na) (77 + na) (.inl (some (hb_i (1)))) (hb_w (SS (j + 1)) F na) (77 + na)) (hm : m < n) {G3 : hb_G} (hE : hb_M l yX9_move cX9_move 6 (some .boolean) 2 0 0 [hb_r 47, hb_i (mv m)] (hb_w (RR m) F na) (77 + na) (.inl (some (hb_i (0)))) (hb_w G3 F na) (77 + na)) : hb_M l yX9_check cX9_check 3 (some .boolean) 5 0 0 [hb_r 47] (hb_w G F na) (77 + na) (.inl (some (hb_i (0)))) (hb_w G3 F na) (77 + na) := by
  refine hb_M_in rfl rfl (by decide) rfl (Nat.le_of_ble_eq_true rfl) ?_
  intro E z0 σ0
  have key : ∀ (r j : Nat), j + r = m → hb_W l RX9 cX9_check 3 (some .boolean) "check" [] E z0 (hb_rm 5 0 0) σ0 (77 + na) (.inl (some (hb_i (0)))) (hb_w G3 F na) (77 + na) 0 0 12 [hb_r 47, hb_i (pq j), hb_i (j : Int)] [] (hb_w (SS j) F na) (77 + na) := by
    intro r
    induction r with
    | zero =>
      intro j g0
      have e9 : j = m := by omega
      subst e9
      have a1 := hN j (by omega)
      have a2 := a1.2 (by omega)
      refine aw_ild2 dX9_check_12 ?_
      refine aw_ald0 dX9_check_13 ?_
      refine aw_getf dX9_check_14 hbf_X9_123 rfl rfl ?_
      refine aw_icmp_ge (tg := 69) dX9_check_17 (by decide) (by constructor <;> omega) (by constructor <;> omega) (fun c17 => absurd c17 (by omega)) (fun c17 => ?_)
      refine aw_ald0 dX9_check_20 ?_
      refine aw_ild1 dX9_check_21 ?_
      refine aw_ald0 dX9_check_22 ?_
      refine aw_getf dX9_check_23 hbf_X9_65 rfl rfl ?_
      refine aw_ald0 dX9_check_26 ?_
      refine aw_getf dX9_check_27 hbf_X9_77 rfl rfl ?_
      refine aw_ild2 dX9_check_30 ?_
      refine aw_iald dX9_check_31 rfl (by constructor <;> omega) (by decide) ?_
      refine aw_top (c9 := mv j) a2.1.1 ?_
      refine aw_iald dX9_check_32 rfl (by constructor <;> omega) (by decide) ?_
      refine aw_top (c9 := pq (j + 1)) a2.2.1 ?_
      refine aw_V2n dX9_check_33 (hr j (by omega)) rfl rfl hbY_X9_record hbm_X9_162 hbi_X9_record hbe_X9_X9_record (Nat.le_of_ble_eq_true rfl) ⟨by decide, by decide⟩ (by decide) (by decide) ?_
      refine aw_ald0 dX9_check_36 ?_
      refine aw_getf dX9_check_37 hbf_X9_65 rfl rfl ?_
      refine aw_ald0 dX9_check_40 ?_
      refine aw_getf dX9_check_41 hbf_X9_77 rfl rfl ?_
      refine aw_ild2 dX9_check_44 ?_
      refine aw_iald dX9_check_45 rfl (by constructor <;> omega) (by decide) ?_
      refine aw_top (c9 := mv j) a2.2.2.1 ?_
      refine aw_iald dX9_check_46 rfl (by constructor <;> omega) (by decide) ?_
      refine aw_top (c9 := pq (j + 1)) a2.2.2.2 ?_
      refine aw_ist1 dX9_check_47 (by decide) ?_
      refine aw_ald0 dX9_check_48 ?_
      refine aw_ald0 dX9_check_49 ?_
      refine aw_getf dX9_check_50 hbf_X9_77 rfl rfl ?_
      refine aw_ild2 dX9_check_53 ?_
      refine aw_iald dX9_check_54 rfl (by constructor <;> omega) (by decide) ?_
      refine aw_top (c9 := mv j) a2.2.2.1 ?_
      refine aw_V1v dX9_check_55 hE rfl rfl hbY_X9_move hbm_X9_150 hbi_X9_move hbe_X9_X9_move (Nat.le_of_ble_eq_true rfl) ⟨by decide, by decide⟩ (by decide) (by decide) ?_
      refine aw_if_ne (tg := 63) dX9_check_58 (by decide) (by decide) (fun c58 => absurd c58 (by decide)) (fun c58 => ?_)
      refine aw_iconst dX9_check_61 ?_
      exact aw_zret dX9_check_62 rfl (by first | omega | exact hb_b01 _) (by rfl) rfl rfl (by decide) (by decide)
    | succ r ih =>
      intro j g0
      have a1 := hN j (by omega)
      have a2 := a1.2 (by omega)
      refine aw_ild2 dX9_check_12 ?_
      refine aw_ald0 dX9_check_13 ?_
      refine aw_getf dX9_check_14 hbf_X9_123 rfl rfl ?_
      refine aw_icmp_ge (tg := 69) dX9_check_17 (by decide) (by constructor <;> omega) (by constructor <;> omega) (fun c17 => absurd c17 (by omega)) (fun c17 => ?_)
      refine aw_ald0 dX9_check_20 ?_
      refine aw_ild1 dX9_check_21 ?_
      refine aw_ald0 dX9_check_22 ?_
      refine aw_getf dX9_check_23 hbf_X9_65 rfl rfl ?_
      refine aw_ald0 dX9_check_26 ?_
      refine aw_getf dX9_check_27 hbf_X9_77 rfl rfl ?_
      refine aw_ild2 dX9_check_30 ?_
      refine aw_iald dX9_check_31 rfl (by constructor <;> omega) (by decide) ?_
      refine aw_top (c9 := mv j) a2.1.1 ?_
      refine aw_iald dX9_check_32 rfl (by constructor <;> omega) (by decide) ?_
      refine aw_top (c9 := pq (j + 1)) a2.2.1 ?_
      refine aw_V2n dX9_check_33 (hr j (by omega)) rfl rfl hbY_X9_record hbm_X9_162 hbi_X9_record hbe_X9_X9_record (Nat.le_of_ble_eq_true rfl) ⟨by decide, by decide⟩ (by decide) (by decide) ?_
      refine aw_ald0 dX9_check_36 ?_
      refine aw_getf dX9_check_37 hbf_X9_65 rfl rfl ?_
      refine aw_ald0 dX9_check_40 ?_
      refine aw_getf dX9_check_41 hbf_X9_77 rfl rfl ?_
      refine aw_ild2 dX9_check_44 ?_
      refine aw_iald dX9_check_45 rfl (by constructor <;> omega) (by decide) ?_
      refine aw_top (c9 := mv j) a2.2.2.1 ?_
      refine aw_iald dX9_check_46 rfl (by constructor <;> omega) (by decide) ?_
      refine aw_top (c9 := pq (j + 1)) a2.2.2.2 ?_
      refine aw_ist1 dX9_check_47 (by decide) ?_
      refine aw_ald0 dX9_check_48 ?_
      refine aw_ald0 dX9_check_49 ?_
      refine aw_getf dX9_check_50 hbf_X9_77 rfl rfl ?_
      refine aw_ild2 dX9_check_53 ?_
      refine aw_iald dX9_check_54 rfl (by constructor <;> omega) (by decide) ?_
      refine aw_top (c9 := mv j) a2.2.2.1 ?_
      refine aw_V1v dX9_check_55 (hM j (by omega)) rfl rfl hbY_X9_move hbm_X9_150 hbi_X9_move hbe_X9_X9_move (Nat.le_of_ble_eq_true rfl) ⟨by decide, by decide⟩ (by decide) (by decide) ?_
      refine aw_if_ne (tg := 63) dX9_check_58 (by decide) (by decide) (fun c58 => ?_) (fun c58 => absurd c58 (by decide))
      refine aw_iinc2 dX9_check_63 (by decide) ?_
      refine aw_goto (tg := 12) dX9_check_66 (by decide) ?_
      exact ih (j + 1) (by omega)
  refine aw_ald0 dX9_check_0 ?_
  refine aw_V0n dX9_check_1 hS rfl rfl hbY_X9_sortMoves hbm_X9_159 hbi_X9_sortMoves hbe_X9_X9_sortMoves (Nat.le_of_ble_eq_true rfl) ⟨by decide, by decide⟩ (by decide) (by decide) ?_
  refine aw_ald0 dX9_check_4 ?_
  refine aw_V0n dX9_check_5 (c_mNothing ) rfl rfl hbY_X9_nothingHangs hbm_X9_147 hbi_X9_nothingHangs hbe_X9_X9_nothingHangs (Nat.le_of_ble_eq_true rfl) ⟨by decide, by decide⟩ (by decide) (by decide) ?_
  refine aw_iconst dX9_check_8 ?_
  refine aw_ipu1 dX9_check_9 (by decide) ?_
  refine aw_iconst dX9_check_10 ?_
  refine aw_ipu2 dX9_check_11 (by decide) ?_
  have h8 := key m 0 (by omega)
  rw [hp0] at h8
  exact aw_G h0 h8

section HBN
variable {l : Launch} {own : String} {cc : ByteArray} {nL : Nat} {ret : Option FieldType} {nm : String} {tb : List ExceptionTableEntry} {E : hb_E} {z0 : Heap} {R : Room} {σ0 : Nat → Nat} {N0 : Nat} {o : hb_O} {h' : hb_H} {N' : Nat} {kc ks pc : Nat} {ls st : List hb_V} {h : hb_H} {N : Nat}
theorem aw_eastN {q n : Nat} {f : Int → Option Nat} {i : Int} (hd : decode cc pc = .ok (.aastore, 1)) (hq : h q = .inr (.inr (3, n, f))) (hi : 0 ≤ i ∧ i < n) (hn : n ≤ 2147483647) (k : hb_W l own cc nL ret nm tb E z0 R σ0 N0 o h' N' kc ks (pc + 1) ls st (hb_up h q (.inr (.inr (3, n, hb_uf f i none)))) N) : hb_W l own cc nL ret nm tb E z0 R σ0 N0 o h' N' kc ks pc ls (hb_n :: hb_i i :: hb_r q :: st) h N := by
  intro p e s m args below meth c X σ H locs lr hR hex hlo hL
  have hqN := hR.lt hq (fun e9 => by cases e9)
  obtain ⟨hz, hat, hcl⟩ := hR.2.1 q hqN
  rw [hq] at hat hcl
  have hat : H[σ q]? = some (arrV (E.2 3) n (fun j => hb_cv σ (.inr (.inl (f (j : Int)))))) := hat
  refine va_WaastN X.1 X.2.1 hat ((X.2.2.2.2.2.1.2 3 (by decide)).1 n _) (fun h9 => by cases h9) (by rw [arrV_size]; exact hb_vin hi.1 hi.2 (by omega)) rfl rfl hd fun H2 e1 e2 e3 => ?_
  refine k p e s m args below meth c X σ H2 _ lr (hR.upd hqN ?_ ?_ e2 e3) hex (fun x hx => by
    rcases List.mem_append.mp hx with h9 | h9
    · exact hlo x h9
    · rw [List.mem_singleton.mp h9]; exact hz) hL
  · show H2[σ q]? = some (arrV (E.2 3) n (fun j => hb_cv σ (.inr (.inl (hb_uf f i none (j : Int))))))
    rw [e1, hb_cla hi.1 (by omega), arrV_store]
    refine congrArg some (hb_arr_congr fun j hj => ?_)
    by_cases e9 : j = i.toNat
    · subst e9
      simp only [updV, if_pos, hb_uf, Int.toNat_of_nonneg hi.1, hb_cv]
    · have e8 : ¬ (j : Int) = i := by omega
      simp only [updV, if_neg e9, hb_uf, if_neg e8]
  · intro j p9 hj hp9
    unfold hb_uf at hp9
    by_cases e8 : (j : Int) = i
    · rw [if_pos e8] at hp9; cases hp9
    · rw [if_neg e8] at hp9; exact hcl j p9 hj hp9
end HBN
section HBN2
variable {l : Launch} {own : String} {cc : ByteArray} {nL : Nat} {ret : Option FieldType} {nm : String} {tb : List ExceptionTableEntry} {E : hb_E} {z0 : Heap} {R : Room} {σ0 : Nat → Nat} {N0 : Nat} {o : hb_O} {h' : hb_H} {N' : Nat} {kc ks pc : Nat} {ls st : List hb_V} {N : Nat} {G : hb_G} {F : hb_F} {na : Nat}
theorem aw_eastNw {q n : Nat} {i : Int} (hd : decode cc pc = .ok (.aastore, 1)) (hq : ∀ f, hb_cell q (G q) f = .inr (.inr (3, n, f))) (hp : (Nat.ble 77 q && !(Nat.blt q (77 + na))) = false) (hi : 0 ≤ i ∧ i < n) (hn : n ≤ 2147483647) (k : hb_W l own cc nL ret nm tb E z0 R σ0 N0 o h' N' kc ks (pc + 1) ls st (hb_w G (hb_v2 F q i none) na) N) : hb_W l own cc nL ret nm tb E z0 R σ0 N0 o h' N' kc ks pc ls (hb_n :: hb_i i :: hb_r q :: st) (hb_w G F na) N := by
  have hq2 : hb_w G F na q = .inr (.inr (3, n, F q)) := by
    unfold hb_w
    rw [hp, if_neg (by decide)]
    exact hq _
  refine aw_eastN hd hq2 hi hn ?_
  rw [hb_w_f hp (hq (hb_uf (F q) i none)).symm]
  exact k
end HBN2
def hb_tc (G : hb_G) (b : Nat) : hb_G := hb_fil (hb_fil (hb_fil G (b + 1) 40 (-1)) (b + 2) 40 (-1)) (b + 3) 160 (-1)
/-- a move of a tree with its rows behind b -/
def hb_mv (S : hb_G) (b q : Nat) : hb_G := if S q 0 = 0 then hb_pt S b (S q 1) (S q 4) (S q 5) else if S q 0 = 1 then hb_tk S b (S q 1) else S
/-- the trial tree after n entries -/
def hb_tl (G : hb_G) (jx : Int → Nat) (n : Nat) : hb_G := match n with
  | 0 => hb_tc G 28
  | k + 1 => hb_mv (hb_tl G jx k) 28 (77 + jx k)
def hb_mok (S : hb_G) (b q : Nat) : Prop := (S q 0 = 0 → hb_ok S (S (b + 1)) (S (b + 3)) (S q 1) (S q 4) (S q 5)) ∧ (S q 0 = 1 → S (b + 1) (S q 1) ≠ -1)
/-- what a move wants of the state -/
def hb_mp (S : hb_G) (b q : Nat) : Prop := hb_rg S ∧ hb_tr (S (b + 1)) ∧ (0 ≤ S q 1 ∧ S q 1 < 40) ∧ (S q 0 = 0 → (0 ≤ S q 4 ∧ S q 4 < 40) ∧ (0 ≤ S q 5 ∧ S q 5 < 4) ∧ (0 ≤ S 7 (S q 4) ∧ S 7 (S q 4) < 12)) ∧ (S q 0 = 1 → S (b + 1) (S q 1) ≠ -1 → 0 ≤ S (b + 2) (S q 1) ∧ S (b + 2) (S q 1) < 4)
set_option maxRecDepth 20000 in
set_option maxHeartbeats 1000000 in
theorem c_isPossibleY {l : Launch} {G : hb_G} {F : hb_F} {na : Nat} {jx : Int → Nat} {n : Nat} (hn : n ≤ 200) (hF : ∀ k, k < n → F 27 k = some (77 + jx k) ∧ jx k < na) (h25 : ∀ k, k ≤ n → hb_tl G jx k 25 4 = n) (hpre : ∀ k, k < n → hb_mp (hb_tl G jx k) 28 (77 + jx k)) (hOK : ∀ k, k < n → hb_mok (hb_tl G jx k) 28 (77 + jx k)) : hb_M l yX0_isPossible cX0_isPossible 3 (some .boolean) 3 0 0 [hb_r 25] (hb_w G F na) (77 + na) (.inl (some (hb_i (1)))) (hb_w (hb_tl G jx n) F na) (77 + na) := by
  refine hb_M_in rfl rfl (by decide) rfl (Nat.le_of_ble_eq_true rfl) ?_
  intro E z0 σ0
  have key : ∀ (m k : Nat), k + m = n → hb_W l RX0 cX0_isPossible 3 (some .boolean) "isPossible" [] E z0 (hb_rm 3 0 0) σ0 (77 + na) (.inl (some (hb_i (1)))) (hb_w (hb_tl G jx n) F na) (77 + na) 0 0 9 [hb_r 25, hb_i (k : Int)] [] (hb_w (hb_tl G jx k) F na) (77 + na) := by
    intro m
    induction m with
    | zero =>
      intro k h0
      have e9 : k = n := by omega
      subst e9
      have h8 := h25 k (by omega)
      refine aw_ild1 dX0_isPossible_9 ?_
      refine aw_ald0 dX0_isPossible_10 ?_
      refine aw_getf dX0_isPossible_11 hbf_X0_61 rfl rfl ?_
      refine aw_icmp_ge (tg := 72) dX0_isPossible_14 (by decide) (by constructor <;> omega) (by constructor <;> omega) (fun c14 => ?_) (fun c14 => absurd c14 (by omega))
      refine aw_iconst dX0_isPossible_72 ?_
      exact aw_zret dX0_isPossible_73 rfl (by first | omega | exact hb_b01 _) (by rfl) rfl rfl (by decide) (by decide)
    | succ m ih =>
      intro k h0
      have hk := hF k (by omega)
      have h8 := h25 k (by omega)
      obtain ⟨hG, hp, ht, hq0, hq1⟩ := hpre k (by omega)
      have hok := hOK k (by omega)
      rcases (show hb_tl G jx k (77 + jx k) 0 = 0 ∨ (hb_tl G jx k (77 + jx k) 0 ≠ 0 ∧ hb_tl G jx k (77 + jx k) 0 = 1) ∨ (hb_tl G jx k (77 + jx k) 0 ≠ 0 ∧ hb_tl G jx k (77 + jx k) 0 ≠ 1) by omega) with hs | ⟨hs0, hs⟩ | ⟨hs0, hs1⟩
      · have h7 := h8
        refine aw_ild1 dX0_isPossible_9 ?_
        refine aw_ald0 dX0_isPossible_10 ?_
        refine aw_getf dX0_isPossible_11 hbf_X0_61 rfl rfl ?_
        refine aw_icmp_ge (tg := 72) dX0_isPossible_14 (by decide) (by constructor <;> omega) (by constructor <;> omega) (fun c14 => absurd c14 (by omega)) (fun c14 => ?_)
        refine aw_ald0 dX0_isPossible_17 ?_
        refine aw_getf dX0_isPossible_18 hbf_X0_17 rfl rfl ?_
        refine aw_ild1 dX0_isPossible_21 ?_
        refine aw_eald (r := some (77 + jx k)) dX0_isPossible_22 rfl (by constructor <;> omega) (by decide) hk.1 ?_
        refine aw_apu2 dX0_isPossible_23 (by decide) ?_
        refine aw_ald2 dX0_isPossible_24 ?_
        refine aw_getf dX0_isPossible_25 hbf_X0_67 (hb_we hk.2) rfl ?_
        refine aw_if_ne (tg := 42) dX0_isPossible_28 (by decide) (hG _ _) (fun c28 => absurd c28 (by omega)) (fun c28 => ?_)
        refine aw_ald0 dX0_isPossible_31 ?_
        refine aw_getf dX0_isPossible_32 hbf_X0_25 rfl rfl ?_
        refine aw_ald2 dX0_isPossible_35 ?_
        refine aw_V1v dX0_isPossible_36 (c_hangY28 hk.2 ht (hq0 hs).1 (hq0 hs).2.1 (hq0 hs).2.2 (hok.1 hs) hp hG) rfl rfl hbY_X7_hang hbm_X0_70 hbi_X7_hang hbe_X7_X7_hang (Nat.le_of_ble_eq_true rfl) ⟨by decide, by decide⟩ (by decide) (by decide) ?_
        refine aw_if_eq (tg := 64) dX0_isPossible_39 (by decide) (by decide) (fun c39 => absurd c39 (by decide)) (fun c39 => ?_)
        refine aw_ald2 dX0_isPossible_42 ?_
        refine aw_getf dX0_isPossible_43 hbf_X0_67 (hb_we hk.2) rfl ?_
        refine aw_top (c9 := hb_tl G jx k (77 + jx k) 0) (by unfold hb_pt; rw [hb_qn (by decide), hb_qn (by decide), hb_qn (by decide)]) ?_
        refine aw_iconst dX0_isPossible_46 ?_
        refine aw_icmp_ne (tg := 66) dX0_isPossible_47 (by decide) (hG _ _) (by decide) (fun c47 => ?_) (fun c47 => absurd c47 (by omega))
        refine aw_iinc1 dX0_isPossible_66 (by decide) ?_
        refine aw_goto (tg := 9) dX0_isPossible_69 (by decide) ?_
        refine aw_dk_2_1 ?_
        refine aw_G (G2 := hb_tl G jx (k + 1)) (by rw [hb_tl]; unfold hb_mv; first | rw [if_neg hs0, if_pos hs] | rw [if_neg hs0, if_neg hs1] | rw [if_pos hs]) ?_
        exact ih (k + 1) (by omega)
      · have h7 := h8
        refine aw_ild1 dX0_isPossible_9 ?_
        refine aw_ald0 dX0_isPossible_10 ?_
        refine aw_getf dX0_isPossible_11 hbf_X0_61 rfl rfl ?_
        refine aw_icmp_ge (tg := 72) dX0_isPossible_14 (by decide) (by constructor <;> omega) (by constructor <;> omega) (fun c14 => absurd c14 (by omega)) (fun c14 => ?_)
        refine aw_ald0 dX0_isPossible_17 ?_
        refine aw_getf dX0_isPossible_18 hbf_X0_17 rfl rfl ?_
        refine aw_ild1 dX0_isPossible_21 ?_
        refine aw_eald (r := some (77 + jx k)) dX0_isPossible_22 rfl (by constructor <;> omega) (by decide) hk.1 ?_
        refine aw_apu2 dX0_isPossible_23 (by decide) ?_
        refine aw_ald2 dX0_isPossible_24 ?_
        refine aw_getf dX0_isPossible_25 hbf_X0_67 (hb_we hk.2) rfl ?_
        refine aw_if_ne (tg := 42) dX0_isPossible_28 (by decide) (hG _ _) (fun c28 => ?_) (fun c28 => absurd c28 (by omega))
        refine aw_ald2 dX0_isPossible_42 ?_
        refine aw_getf dX0_isPossible_43 hbf_X0_67 (hb_we hk.2) rfl ?_
        refine aw_iconst dX0_isPossible_46 ?_
        refine aw_icmp_ne (tg := 66) dX0_isPossible_47 (by decide) (hG _ _) (by decide) (fun c47 => absurd c47 (by omega)) (fun c47 => ?_)
        refine aw_ald0 dX0_isPossible_50 ?_
        refine aw_getf dX0_isPossible_51 hbf_X0_25 rfl rfl ?_
        refine aw_ald2 dX0_isPossible_54 ?_
        refine aw_getf dX0_isPossible_55 hbf_X0_74 (hb_we hk.2) rfl ?_
        refine aw_V1v dX0_isPossible_58 (c_unhangY28 ht (hok.2 hs) (hq1 hs (hok.2 hs)) hp hG) rfl rfl hbY_X7_unhang hbm_X0_77 hbi_X7_unhang hbe_X7_X7_unhang (Nat.le_of_ble_eq_true rfl) ⟨by decide, by decide⟩ (by decide) (by decide) ?_
        refine aw_if_ne (tg := 66) dX0_isPossible_61 (by decide) (by decide) (fun c61 => ?_) (fun c61 => absurd c61 (by decide))
        refine aw_iinc1 dX0_isPossible_66 (by decide) ?_
        refine aw_goto (tg := 9) dX0_isPossible_69 (by decide) ?_
        refine aw_dk_2_1 ?_
        refine aw_G (G2 := hb_tl G jx (k + 1)) (by rw [hb_tl]; unfold hb_mv; first | rw [if_neg hs0, if_pos hs] | rw [if_neg hs0, if_neg hs1] | rw [if_pos hs]) ?_
        exact ih (k + 1) (by omega)
      · have h7 := h8
        refine aw_ild1 dX0_isPossible_9 ?_
        refine aw_ald0 dX0_isPossible_10 ?_
        refine aw_getf dX0_isPossible_11 hbf_X0_61 rfl rfl ?_
        refine aw_icmp_ge (tg := 72) dX0_isPossible_14 (by decide) (by constructor <;> omega) (by constructor <;> omega) (fun c14 => absurd c14 (by omega)) (fun c14 => ?_)
        refine aw_ald0 dX0_isPossible_17 ?_
        refine aw_getf dX0_isPossible_18 hbf_X0_17 rfl rfl ?_
        refine aw_ild1 dX0_isPossible_21 ?_
        refine aw_eald (r := some (77 + jx k)) dX0_isPossible_22 rfl (by constructor <;> omega) (by decide) hk.1 ?_
        refine aw_apu2 dX0_isPossible_23 (by decide) ?_
        refine aw_ald2 dX0_isPossible_24 ?_
        refine aw_getf dX0_isPossible_25 hbf_X0_67 (hb_we hk.2) rfl ?_
        refine aw_if_ne (tg := 42) dX0_isPossible_28 (by decide) (hG _ _) (fun c28 => ?_) (fun c28 => absurd c28 (by omega))
        refine aw_ald2 dX0_isPossible_42 ?_
        refine aw_getf dX0_isPossible_43 hbf_X0_67 (hb_we hk.2) rfl ?_
        refine aw_iconst dX0_isPossible_46 ?_
        refine aw_icmp_ne (tg := 66) dX0_isPossible_47 (by decide) (hG _ _) (by decide) (fun c47 => ?_) (fun c47 => absurd c47 (by omega))
        refine aw_iinc1 dX0_isPossible_66 (by decide) ?_
        refine aw_goto (tg := 9) dX0_isPossible_69 (by decide) ?_
        refine aw_dk_2_1 ?_
        refine aw_G (G2 := hb_tl G jx (k + 1)) (by rw [hb_tl]; unfold hb_mv; first | rw [if_neg hs0, if_pos hs] | rw [if_neg hs0, if_neg hs1] | rw [if_pos hs]) ?_
        exact ih (k + 1) (by omega)
  refine aw_ald0 dX0_isPossible_0 ?_
  refine aw_getf dX0_isPossible_1 hbf_X0_25 rfl rfl ?_
  refine aw_V0n dX0_isPossible_4 (c_clear28 ) rfl rfl hbY_X7_clear hbm_X0_64 hbi_X7_clear hbe_X7_X7_clear (Nat.le_of_ble_eq_true rfl) ⟨by decide, by decide⟩ (by decide) (by decide) ?_
  refine aw_iconst dX0_isPossible_7 ?_
  refine aw_ipu1 dX0_isPossible_8 (by decide) ?_
  exact key n 0 (by omega)
set_option maxRecDepth 20000 in
set_option maxHeartbeats 1000000 in
theorem c_isPossibleN {l : Launch} {G : hb_G} {F : hb_F} {na : Nat} {jx : Int → Nat} {n : Nat} (hn : n ≤ 200) (hF : ∀ k, k < n → F 27 k = some (77 + jx k) ∧ jx k < na) (h25 : ∀ k, k ≤ n → hb_tl G jx k 25 4 = n) (hpre : ∀ k, k < n → hb_mp (hb_tl G jx k) 28 (77 + jx k)) {k0 : Nat} (hk0 : k0 < n) (hOK : ∀ k, k < k0 → hb_mok (hb_tl G jx k) 28 (77 + jx k)) (hNO : ¬ hb_mok (hb_tl G jx k0) 28 (77 + jx k0)) : hb_M l yX0_isPossible cX0_isPossible 3 (some .boolean) 3 0 0 [hb_r 25] (hb_w G F na) (77 + na) (.inl (some (hb_i (0)))) (hb_w (hb_tl G jx k0) F na) (77 + na) := by
  refine hb_M_in rfl rfl (by decide) rfl (Nat.le_of_ble_eq_true rfl) ?_
  intro E z0 σ0
  have key : ∀ (m k : Nat), k + m = k0 → hb_W l RX0 cX0_isPossible 3 (some .boolean) "isPossible" [] E z0 (hb_rm 3 0 0) σ0 (77 + na) (.inl (some (hb_i (0)))) (hb_w (hb_tl G jx k0) F na) (77 + na) 0 0 9 [hb_r 25, hb_i (k : Int)] [] (hb_w (hb_tl G jx k) F na) (77 + na) := by
    intro m
    induction m with
    | zero =>
      intro k h0
      have e9 : k = k0 := by omega
      subst e9
      have hk := hF k (by omega)
      have h8 := h25 k (by omega)
      obtain ⟨hG, hp, ht, hq0, hq1⟩ := hpre k (by omega)
      rcases (show (hb_tl G jx k (77 + jx k) 0 = 0 ∧ ¬ hb_ok (hb_tl G jx k) (hb_tl G jx k 29) (hb_tl G jx k 31) (hb_tl G jx k (77 + jx k) 1) (hb_tl G jx k (77 + jx k) 4) (hb_tl G jx k (77 + jx k) 5)) ∨ (hb_tl G jx k (77 + jx k) 0 ≠ 0 ∧ hb_tl G jx k (77 + jx k) 0 = 1 ∧ hb_tl G jx k 29 (hb_tl G jx k (77 + jx k) 1) = -1) by
        rcases Classical.em (hb_tl G jx k (77 + jx k) 0 = 0) with a1 | a1
        · exact Or.inl ⟨a1, fun a2 => hNO ⟨fun _ => a2, fun a3 => by omega⟩⟩
        · refine Or.inr ⟨a1, ?_⟩
          rcases Classical.em (hb_tl G jx k (77 + jx k) 0 = 1) with a2 | a2
          · refine ⟨a2, ?_⟩
            rcases Classical.em (hb_tl G jx k 29 (hb_tl G jx k (77 + jx k) 1) = -1) with a3 | a3
            · exact a3
            · exact absurd ⟨fun a4 => absurd a4 a1, fun _ => a3⟩ hNO
          · exact absurd ⟨fun a4 => absurd a4 a1, fun a4 => absurd a4 a2⟩ hNO) with ⟨hs, hno⟩ | ⟨hs0, hs, hno⟩
      · have h7 := h8
        refine aw_ild1 dX0_isPossible_9 ?_
        refine aw_ald0 dX0_isPossible_10 ?_
        refine aw_getf dX0_isPossible_11 hbf_X0_61 rfl rfl ?_
        refine aw_icmp_ge (tg := 72) dX0_isPossible_14 (by decide) (by constructor <;> omega) (by constructor <;> omega) (fun c14 => absurd c14 (by omega)) (fun c14 => ?_)
        refine aw_ald0 dX0_isPossible_17 ?_
        refine aw_getf dX0_isPossible_18 hbf_X0_17 rfl rfl ?_
        refine aw_ild1 dX0_isPossible_21 ?_
        refine aw_eald (r := some (77 + jx k)) dX0_isPossible_22 rfl (by constructor <;> omega) (by decide) hk.1 ?_
        refine aw_apu2 dX0_isPossible_23 (by decide) ?_
        refine aw_ald2 dX0_isPossible_24 ?_
        refine aw_getf dX0_isPossible_25 hbf_X0_67 (hb_we hk.2) rfl ?_
        refine aw_if_ne (tg := 42) dX0_isPossible_28 (by decide) (hG _ _) (fun c28 => absurd c28 (by omega)) (fun c28 => ?_)
        refine aw_ald0 dX0_isPossible_31 ?_
        refine aw_getf dX0_isPossible_32 hbf_X0_25 rfl rfl ?_
        refine aw_ald2 dX0_isPossible_35 ?_
        refine aw_V1v dX0_isPossible_36 (c_hangN28 hk.2 ht (hq0 hs).1 (hq0 hs).2.1 (hq0 hs).2.2 hno hp hG) rfl rfl hbY_X7_hang hbm_X0_70 hbi_X7_hang hbe_X7_X7_hang (Nat.le_of_ble_eq_true rfl) ⟨by decide, by decide⟩ (by decide) (by decide) ?_
        refine aw_if_eq (tg := 64) dX0_isPossible_39 (by decide) (by decide) (fun c39 => ?_) (fun c39 => absurd c39 (by decide))
        refine aw_iconst dX0_isPossible_64 ?_
        exact aw_zret dX0_isPossible_65 rfl (by first | omega | exact hb_b01 _) (by rfl) rfl rfl (by decide) (by decide)
      · have h7 := h8
        refine aw_ild1 dX0_isPossible_9 ?_
        refine aw_ald0 dX0_isPossible_10 ?_
        refine aw_getf dX0_isPossible_11 hbf_X0_61 rfl rfl ?_
        refine aw_icmp_ge (tg := 72) dX0_isPossible_14 (by decide) (by constructor <;> omega) (by constructor <;> omega) (fun c14 => absurd c14 (by omega)) (fun c14 => ?_)
        refine aw_ald0 dX0_isPossible_17 ?_
        refine aw_getf dX0_isPossible_18 hbf_X0_17 rfl rfl ?_
        refine aw_ild1 dX0_isPossible_21 ?_
        refine aw_eald (r := some (77 + jx k)) dX0_isPossible_22 rfl (by constructor <;> omega) (by decide) hk.1 ?_
        refine aw_apu2 dX0_isPossible_23 (by decide) ?_
        refine aw_ald2 dX0_isPossible_24 ?_
        refine aw_getf dX0_isPossible_25 hbf_X0_67 (hb_we hk.2) rfl ?_
        refine aw_if_ne (tg := 42) dX0_isPossible_28 (by decide) (hG _ _) (fun c28 => ?_) (fun c28 => absurd c28 (by omega))
        refine aw_ald2 dX0_isPossible_42 ?_
        refine aw_getf dX0_isPossible_43 hbf_X0_67 (hb_we hk.2) rfl ?_
        refine aw_iconst dX0_isPossible_46 ?_
        refine aw_icmp_ne (tg := 66) dX0_isPossible_47 (by decide) (hG _ _) (by decide) (fun c47 => absurd c47 (by omega)) (fun c47 => ?_)
        refine aw_ald0 dX0_isPossible_50 ?_
        refine aw_getf dX0_isPossible_51 hbf_X0_25 rfl rfl ?_
        refine aw_ald2 dX0_isPossible_54 ?_
        refine aw_getf dX0_isPossible_55 hbf_X0_74 (hb_we hk.2) rfl ?_
        refine aw_V1v dX0_isPossible_58 (c_unhangN28 ht hno hG) rfl rfl hbY_X7_unhang hbm_X0_77 hbi_X7_unhang hbe_X7_X7_unhang (Nat.le_of_ble_eq_true rfl) ⟨by decide, by decide⟩ (by decide) (by decide) ?_
        refine aw_if_ne (tg := 66) dX0_isPossible_61 (by decide) (by decide) (fun c61 => absurd c61 (by decide)) (fun c61 => ?_)
        refine aw_iconst dX0_isPossible_64 ?_
        exact aw_zret dX0_isPossible_65 rfl (by first | omega | exact hb_b01 _) (by rfl) rfl rfl (by decide) (by decide)
    | succ m ih =>
      intro k h0
      have hk := hF k (by omega)
      have h8 := h25 k (by omega)
      obtain ⟨hG, hp, ht, hq0, hq1⟩ := hpre k (by omega)
      have hok := hOK k (by omega)
      rcases (show hb_tl G jx k (77 + jx k) 0 = 0 ∨ (hb_tl G jx k (77 + jx k) 0 ≠ 0 ∧ hb_tl G jx k (77 + jx k) 0 = 1) ∨ (hb_tl G jx k (77 + jx k) 0 ≠ 0 ∧ hb_tl G jx k (77 + jx k) 0 ≠ 1) by omega) with hs | ⟨hs0, hs⟩ | ⟨hs0, hs1⟩
      · have h7 := h8
        refine aw_ild1 dX0_isPossible_9 ?_
        refine aw_ald0 dX0_isPossible_10 ?_
        refine aw_getf dX0_isPossible_11 hbf_X0_61 rfl rfl ?_
        refine aw_icmp_ge (tg := 72) dX0_isPossible_14 (by decide) (by constructor <;> omega) (by constructor <;> omega) (fun c14 => absurd c14 (by omega)) (fun c14 => ?_)
        refine aw_ald0 dX0_isPossible_17 ?_
        refine aw_getf dX0_isPossible_18 hbf_X0_17 rfl rfl ?_
        refine aw_ild1 dX0_isPossible_21 ?_
        refine aw_eald (r := some (77 + jx k)) dX0_isPossible_22 rfl (by constructor <;> omega) (by decide) hk.1 ?_
        refine aw_apu2 dX0_isPossible_23 (by decide) ?_
        refine aw_ald2 dX0_isPossible_24 ?_
        refine aw_getf dX0_isPossible_25 hbf_X0_67 (hb_we hk.2) rfl ?_
        refine aw_if_ne (tg := 42) dX0_isPossible_28 (by decide) (hG _ _) (fun c28 => absurd c28 (by omega)) (fun c28 => ?_)
        refine aw_ald0 dX0_isPossible_31 ?_
        refine aw_getf dX0_isPossible_32 hbf_X0_25 rfl rfl ?_
        refine aw_ald2 dX0_isPossible_35 ?_
        refine aw_V1v dX0_isPossible_36 (c_hangY28 hk.2 ht (hq0 hs).1 (hq0 hs).2.1 (hq0 hs).2.2 (hok.1 hs) hp hG) rfl rfl hbY_X7_hang hbm_X0_70 hbi_X7_hang hbe_X7_X7_hang (Nat.le_of_ble_eq_true rfl) ⟨by decide, by decide⟩ (by decide) (by decide) ?_
        refine aw_if_eq (tg := 64) dX0_isPossible_39 (by decide) (by decide) (fun c39 => absurd c39 (by decide)) (fun c39 => ?_)
        refine aw_ald2 dX0_isPossible_42 ?_
        refine aw_getf dX0_isPossible_43 hbf_X0_67 (hb_we hk.2) rfl ?_
        refine aw_top (c9 := hb_tl G jx k (77 + jx k) 0) (by unfold hb_pt; rw [hb_qn (by decide), hb_qn (by decide), hb_qn (by decide)]) ?_
        refine aw_iconst dX0_isPossible_46 ?_
        refine aw_icmp_ne (tg := 66) dX0_isPossible_47 (by decide) (hG _ _) (by decide) (fun c47 => ?_) (fun c47 => absurd c47 (by omega))
        refine aw_iinc1 dX0_isPossible_66 (by decide) ?_
        refine aw_goto (tg := 9) dX0_isPossible_69 (by decide) ?_
        refine aw_dk_2_1 ?_
        refine aw_G (G2 := hb_tl G jx (k + 1)) (by rw [hb_tl]; unfold hb_mv; first | rw [if_neg hs0, if_pos hs] | rw [if_neg hs0, if_neg hs1] | rw [if_pos hs]) ?_
        exact ih (k + 1) (by omega)
      · have h7 := h8
        refine aw_ild1 dX0_isPossible_9 ?_
        refine aw_ald0 dX0_isPossible_10 ?_
        refine aw_getf dX0_isPossible_11 hbf_X0_61 rfl rfl ?_
        refine aw_icmp_ge (tg := 72) dX0_isPossible_14 (by decide) (by constructor <;> omega) (by constructor <;> omega) (fun c14 => absurd c14 (by omega)) (fun c14 => ?_)
        refine aw_ald0 dX0_isPossible_17 ?_
        refine aw_getf dX0_isPossible_18 hbf_X0_17 rfl rfl ?_
        refine aw_ild1 dX0_isPossible_21 ?_
        refine aw_eald (r := some (77 + jx k)) dX0_isPossible_22 rfl (by constructor <;> omega) (by decide) hk.1 ?_
        refine aw_apu2 dX0_isPossible_23 (by decide) ?_
        refine aw_ald2 dX0_isPossible_24 ?_
        refine aw_getf dX0_isPossible_25 hbf_X0_67 (hb_we hk.2) rfl ?_
        refine aw_if_ne (tg := 42) dX0_isPossible_28 (by decide) (hG _ _) (fun c28 => ?_) (fun c28 => absurd c28 (by omega))
        refine aw_ald2 dX0_isPossible_42 ?_
        refine aw_getf dX0_isPossible_43 hbf_X0_67 (hb_we hk.2) rfl ?_
        refine aw_iconst dX0_isPossible_46 ?_
        refine aw_icmp_ne (tg := 66) dX0_isPossible_47 (by decide) (hG _ _) (by decide) (fun c47 => absurd c47 (by omega)) (fun c47 => ?_)
        refine aw_ald0 dX0_isPossible_50 ?_
        refine aw_getf dX0_isPossible_51 hbf_X0_25 rfl rfl ?_
        refine aw_ald2 dX0_isPossible_54 ?_
        refine aw_getf dX0_isPossible_55 hbf_X0_74 (hb_we hk.2) rfl ?_
        refine aw_V1v dX0_isPossible_58 (c_unhangY28 ht (hok.2 hs) (hq1 hs (hok.2 hs)) hp hG) rfl rfl hbY_X7_unhang hbm_X0_77 hbi_X7_unhang hbe_X7_X7_unhang (Nat.le_of_ble_eq_true rfl) ⟨by decide, by decide⟩ (by decide) (by decide) ?_
        refine aw_if_ne (tg := 66) dX0_isPossible_61 (by decide) (by decide) (fun c61 => ?_) (fun c61 => absurd c61 (by decide))
        refine aw_iinc1 dX0_isPossible_66 (by decide) ?_
        refine aw_goto (tg := 9) dX0_isPossible_69 (by decide) ?_
        refine aw_dk_2_1 ?_
        refine aw_G (G2 := hb_tl G jx (k + 1)) (by rw [hb_tl]; unfold hb_mv; first | rw [if_neg hs0, if_pos hs] | rw [if_neg hs0, if_neg hs1] | rw [if_pos hs]) ?_
        exact ih (k + 1) (by omega)
      · have h7 := h8
        refine aw_ild1 dX0_isPossible_9 ?_
        refine aw_ald0 dX0_isPossible_10 ?_
        refine aw_getf dX0_isPossible_11 hbf_X0_61 rfl rfl ?_
        refine aw_icmp_ge (tg := 72) dX0_isPossible_14 (by decide) (by constructor <;> omega) (by constructor <;> omega) (fun c14 => absurd c14 (by omega)) (fun c14 => ?_)
        refine aw_ald0 dX0_isPossible_17 ?_
        refine aw_getf dX0_isPossible_18 hbf_X0_17 rfl rfl ?_
        refine aw_ild1 dX0_isPossible_21 ?_
        refine aw_eald (r := some (77 + jx k)) dX0_isPossible_22 rfl (by constructor <;> omega) (by decide) hk.1 ?_
        refine aw_apu2 dX0_isPossible_23 (by decide) ?_
        refine aw_ald2 dX0_isPossible_24 ?_
        refine aw_getf dX0_isPossible_25 hbf_X0_67 (hb_we hk.2) rfl ?_
        refine aw_if_ne (tg := 42) dX0_isPossible_28 (by decide) (hG _ _) (fun c28 => ?_) (fun c28 => absurd c28 (by omega))
        refine aw_ald2 dX0_isPossible_42 ?_
        refine aw_getf dX0_isPossible_43 hbf_X0_67 (hb_we hk.2) rfl ?_
        refine aw_iconst dX0_isPossible_46 ?_
        refine aw_icmp_ne (tg := 66) dX0_isPossible_47 (by decide) (hG _ _) (by decide) (fun c47 => ?_) (fun c47 => absurd c47 (by omega))
        refine aw_iinc1 dX0_isPossible_66 (by decide) ?_
        refine aw_goto (tg := 9) dX0_isPossible_69 (by decide) ?_
        refine aw_dk_2_1 ?_
        refine aw_G (G2 := hb_tl G jx (k + 1)) (by rw [hb_tl]; unfold hb_mv; first | rw [if_neg hs0, if_pos hs] | rw [if_neg hs0, if_neg hs1] | rw [if_pos hs]) ?_
        exact ih (k + 1) (by omega)
  refine aw_ald0 dX0_isPossible_0 ?_
  refine aw_getf dX0_isPossible_1 hbf_X0_25 rfl rfl ?_
  refine aw_V0n dX0_isPossible_4 (c_clear28 ) rfl rfl hbY_X7_clear hbm_X0_64 hbi_X7_clear hbe_X7_X7_clear (Nat.le_of_ble_eq_true rfl) ⟨by decide, by decide⟩ (by decide) (by decide) ?_
  refine aw_iconst dX0_isPossible_7 ?_
  refine aw_ipu1 dX0_isPossible_8 (by decide) ?_
  exact key k0 0 (by omega)

/-! the reference's moves -/
def bk_rw (D G : hb_G) : Prop := ∀ p : Nat, 48 ≤ p ∧ p ≤ 69 → G p = D p
def bk_tq (D G : hb_G) (r : List Nat) : Prop := ∀ t, 0 ≤ t ∧ t < 40 → G 71 t = (bk_TR D r).1 t ∧ G 72 t = (bk_TR D r).2 t
def bk_kt (G H : hb_G) : Prop := ∀ p : Nat, p ≠ 71 → p ≠ 72 → H p = G p
theorem bk_tq_TI {D G : hb_G} {r : List Nat} (hrw : bk_rw D G) (h : bk_tq D G r) (hv : ∀ f ∈ r, bk_vd D f) (hl : bk_LG D r) : bk_eq (bk_TR D r).1 (G 71) ∧ bk_eq (bk_TR D r).2 (G 72) ∧ bk_TI G (G 71) (G 72) := by
  have h1 : bk_eq (bk_TR D r).1 (G 71) := fun t ht => (h t ht).1
  have h2 : bk_eq (bk_TR D r).2 (G 72) := fun t ht => (h t ht).2
  exact ⟨h1, h2, bk_TI_c h1 h2 (fun _ _ h => by rw [hrw 51 (by omega)]; exact h) (bk_TR_TI hv hl)⟩
theorem bk_mov {l : Launch} {D G : hb_G} {F : hb_F} {na : Nat} {r : List Nat} {e : Nat} (hs : bk_sb D) (hrw : bk_rw D G) (hve : bk_vd D e) (he : e < 201) (hmv : D 63 e = 1 ∨ D 63 e = 2) (hvr : ∀ f ∈ r, bk_vd D f) (hLG : bk_LG D r) (ht : bk_tq D G r) (hG : hb_rg G) :
    (bk_ok D (bk_TR D r) e → ∃ H, hb_M l yX9_move cX9_move 6 (some .boolean) 2 0 0 [hb_r 47, hb_i e] (hb_w G F na) (77 + na) (.inl (some (hb_i 1))) (hb_w H F na) (77 + na) ∧ bk_kt G H ∧ bk_tq D H (e :: r) ∧ hb_rg H) ∧
    (¬ bk_ok D (bk_TR D r) e → ∃ H, hb_M l yX9_move cX9_move 6 (some .boolean) 2 0 0 [hb_r 47, hb_i e] (hb_w G F na) (77 + na) (.inl (some (hb_i 0))) (hb_w H F na) (77 + na) ∧ bk_kt G H ∧ hb_rg H) := by
  obtain ⟨q1, q2, hTI⟩ := bk_tq_TI hrw ht hvr hLG
  obtain ⟨v1, v2, v3, v4, v5, v6, v7⟩ := hve
  have w63 := hrw 63 (by omega); have w65 := hrw 65 (by omega); have w67 := hrw 67 (by omega); have w68 := hrw 68 (by omega); have w51 := hrw 51 (by omega); have w48 := hrw 48 (by omega)
  have hei : 0 ≤ (e : Int) ∧ (e : Int) < 201 := by omega
  rcases hmv with e1 | e2
  · have v6 := v6 e1
    have hb := (hs.2.2.1 _ v6.1.1).1
    have hiff : hb_my G (G 65 e) (G 67 e) (G 68 e) ↔ bk_my D (bk_TR D r).1 (bk_TR D r).2 (D 65 e) (D 67 e) (D 68 e) := by
      rw [w65, w67, w68]
      rw [bk_my_m hTI v3.1 v6.1.1 (by rw [w51]; exact v3.2)]
      exact bk_my_c (G := D) q1 q2 (by rw [w48, w51]) (by rw [w51]) (bk_TR_TI hvr hLG).1 v3.1 v6.1.1
    refine ⟨fun hok => ?_, fun hno => ?_⟩
    · have hM := c_mMoveY (l := l) (F := F) (na := na) (G := G) (e := e) hei (by rw [w65]; exact v3.1) (by rw [w63]; omega) (by rw [w67]; exact v6.1.1) (by rw [w68]; exact v6.2) (by rw [w51, w67]; omega) (hiff.mpr (hok.1 e1)) hTI.1 hTI.2.1 hG
      refine ⟨_, hM, fun p h1 h2 => by rw [hb_u2_n h2, hb_u2_n h1], fun t ht9 => ?_, (hG.u2 (hG _ _)).u2 (hG _ _)⟩
      show hb_uf (G 71) (G 65 e) (G 67 e) t = (bk_st D (bk_TR D r) e).1 t ∧ hb_uf (G 72) (G 65 e) (G 68 e) t = (bk_st D (bk_TR D r) e).2 t
      unfold bk_st
      rw [if_pos e1, w65, w67, w68]
      unfold hb_uf
      have := ht t ht9
      constructor
      · show _ = if t = D 65 e then D 67 e else (bk_TR D r).1 t
        rw [this.1]
      · show _ = if t = D 65 e then D 68 e else (bk_TR D r).2 t
        rw [this.2]
    · have hM := c_mMoveN (l := l) (F := F) (na := na) (G := G) (e := e) hei (by rw [w65]; exact v3.1) (by rw [w63]; omega) (by rw [w67]; exact v6.1.1) (by rw [w68]; exact v6.2) (by rw [w51, w67]; omega) (fun h => hno ⟨fun _ => hiff.mp h, fun h9 => by omega⟩) hTI.1 hTI.2.1 hG
      exact ⟨_, hM, fun p h1 h2 => rfl, hG⟩
  · have hM := c_mMoveT (l := l) (F := F) (na := na) (G := G) (e := e) hei (by rw [w65]; exact v3.1) (by rw [w63]; exact e2) hG
    have hpe : G 71 (G 65 e) = (bk_TR D r).1 (D 65 e) := by rw [w65]; exact (ht _ v3.1).1
    refine ⟨fun hok => ?_, fun hno => ?_⟩
    · rw [hpe, hb_bt (hok.2 e2)] at hM
      refine ⟨_, hM, fun p h1 h2 => by rw [hb_u2_n h2, hb_u2_n h1], fun t ht9 => ?_, (hG.u2 (by decide)).u2 (by decide)⟩
      show hb_uf (G 71) (G 65 e) (-1) t = (bk_st D (bk_TR D r) e).1 t ∧ hb_uf (G 72) (G 65 e) (-1) t = (bk_st D (bk_TR D r) e).2 t
      unfold bk_st
      rw [if_neg (by omega), if_pos e2, w65]
      unfold hb_uf
      have := ht t ht9
      constructor
      · show _ = if t = D 65 e then -1 else (bk_TR D r).1 t
        rw [this.1]
      · show _ = if t = D 65 e then -1 else (bk_TR D r).2 t
        rw [this.2]
    · have hn : ¬ (bk_TR D r).1 (D 65 e) ≠ -1 := fun h => hno ⟨fun h9 => by omega, fun _ => h⟩
      rw [hpe, hb_bf hn] at hM
      exact ⟨_, hM, fun p h1 h2 => by rw [hb_u2_n h2, hb_u2_n h1], (hG.u2 (by decide)).u2 (by decide)⟩
/-- the moves' row -/
def bk_mr (D G : hb_G) (xs : List Nat) : Prop := G 47 26 = (xs.filter (bk_mb D)).length ∧ ∀ (j e : Nat), (xs.filter (bk_mb D))[j]? = some e → G 70 j = e
def bk_no (G : hb_G) : hb_G := hb_u1 (hb_u1 G 71 (hb_fl (G 71) 40 (-1))) 72 (hb_fl (G 72) 40 (-1))
theorem bk_no_kt {G : hb_G} : bk_kt G (bk_no G) := fun p h1 h2 => by unfold bk_no; rw [hb_u1_n h2, hb_u1_n h1]
theorem bk_no_tq {D G : hb_G} : bk_tq D (bk_no G) [] := fun t ht => ⟨if_pos ht, if_pos ht⟩
theorem bk_no_rg {G : hb_G} (hG : hb_rg G) : hb_rg (bk_no G) := by
  intro p i
  by_cases h2 : p = 72
  · subst h2
    show hb_in (hb_fl (G 72) 40 (-1) i)
    unfold hb_fl; split
    · decide
    · exact hG _ _
  · by_cases h1 : p = 71
    · subst h1
      show hb_in (hb_fl (G 71) 40 (-1) i)
      unfold hb_fl; split
      · decide
      · exact hG _ _
    · rw [bk_no_kt p h1 h2]; exact hG _ _
theorem bk_kt.tr {G H K : hb_G} (h1 : bk_kt G H) (h2 : bk_kt H K) : bk_kt G K := fun p a b => (h2 p a b).trans (h1 p a b)
theorem bk_rw.kt {D G H : hb_G} (h : bk_rw D G) (hk : bk_kt G H) : bk_rw D H := fun p hp => (hk p (by omega) (by omega)).trans (h p hp)
/-- the moves of a list, one by one -/
theorem bk_mrun {l : Launch} {D G : hb_G} {F : hb_F} {na : Nat} (hs : bk_sb D) (hrw : bk_rw D G) (hG : hb_rg G) {c : List Nat} (hv : ∀ f ∈ c, bk_vd D f ∧ f < 201 ∧ (D 63 f = 1 ∨ D 63 f = 2)) (hL : bk_LG D c.reverse) : ∀ m : Nat, m ≤ c.length → ∃ SS : Nat → hb_G, SS 0 = bk_no G ∧
    (∀ (j e : Nat), j < m → c[j]? = some e → hb_M l yX9_move cX9_move 6 (some .boolean) 2 0 0 [hb_r 47, hb_i e] (hb_w (SS j) F na) (77 + na) (.inl (some (hb_i 1))) (hb_w (SS (j + 1)) F na) (77 + na)) ∧
    ∀ j, j ≤ m → bk_tq D (SS j) (c.take j).reverse ∧ bk_kt G (SS j) ∧ hb_rg (SS j)
  | 0, _ => ⟨fun _ => bk_no G, rfl, fun j e h => absurd h (Nat.not_lt_zero _), fun j hj => by
      have : j = 0 := by omega
      subst this
      exact ⟨by simpa using bk_no_tq, bk_no_kt, bk_no_rg hG⟩⟩
  | m + 1, hm => by
    obtain ⟨SS, h0, h1, h2⟩ := bk_mrun (l := l) (F := F) (na := na) hs hrw hG hv hL m (by omega)
    obtain ⟨g1, g2, g3⟩ := h2 m (Nat.le_refl _)
    have hmc : m < c.length := by omega
    have hme : c[m] ∈ c := List.getElem_mem hmc
    have hrv : (c.take (m + 1)).reverse = c[m] :: (c.take m).reverse := by
      rw [List.take_succ_eq_append_getElem hmc, List.reverse_append]; rfl
    have hLm : bk_LG D (c[m] :: (c.take m).reverse) := by
      rw [← hrv]
      have : c.reverse = (c.drop (m + 1)).reverse ++ (c.take (m + 1)).reverse := by
        rw [← List.reverse_append, List.take_append_drop]
      rw [this] at hL
      exact bk_LG_a hL
    obtain ⟨H, hM, hk, hq, hR⟩ := (bk_mov (l := l) (F := F) (na := na) hs (hrw.kt g2) (hv _ hme).1 (hv _ hme).2.1 (hv _ hme).2.2 (fun f hf => (hv f (List.mem_of_mem_take (List.mem_reverse.mp hf))).1) hLm.2 g1 g3).1 hLm.1
    refine ⟨fun j => if j ≤ m then SS j else H, ?_, fun j e hj hc => ?_, fun j hj => ?_⟩
    · show (if 0 ≤ m then SS 0 else _) = _
      rw [if_pos (Nat.zero_le _)]; exact h0
    · show hb_M l _ _ _ _ _ _ _ _ (hb_w (if j ≤ m then SS j else _) F na) _ _ (hb_w (if j + 1 ≤ m then SS (j + 1) else _) F na) _
      rw [if_pos (show j ≤ m by omega)]
      by_cases hj2 : j + 1 ≤ m
      · rw [if_pos hj2]; exact h1 j e (by omega) hc
      · have : j = m := by omega
        subst this
        rw [if_neg hj2]
        rw [List.getElem?_eq_getElem hmc] at hc
        cases hc
        exact hM
    · show bk_tq D (if j ≤ m then SS j else _) _ ∧ bk_kt G (if j ≤ m then SS j else _) ∧ hb_rg (if j ≤ m then SS j else _)
      by_cases hj2 : j ≤ m
      · rw [if_pos hj2]; exact h2 j hj2
      · have : j = m + 1 := by omega
        subst this
        rw [if_neg hj2, hrv]
        exact ⟨hq, g2.tr hk, hR⟩
theorem bk_arr {l : Launch} {D G : hb_G} {F : hb_F} {na n : Nat} {a b : List Nat} {pt : Int} (hs : bk_sb D) (hrw : bk_rw D G) (hG : hb_rg G) (hn : n ≤ 200) (hm : ∀ f ∈ a ++ b, f < n) (hv : ∀ f ∈ a ++ b, bk_vd D f) (hl : (a ++ b).length ≤ 200) (hL : bk_LG D (a ++ b).reverse) (hmr : bk_mr D G (a ++ b)) (hpf : bk_pf D pt a b) (hpt : hb_in pt) : ∃ H, hb_M l yX9_arrange cX9_arrange 3 (some .boolean) 3 0 0 [hb_r 47, hb_i pt] (hb_w G F na) (77 + na) (.inl (some (hb_i 1))) (hb_w H F na) (77 + na) ∧ bk_kt G H ∧ bk_tq D H a.reverse ∧ hb_rg H := by
  have hL2 : bk_LG D (a.filter (bk_mb D)).reverse := by
    rw [← List.filter_reverse, bk_LG_f]
    rw [List.reverse_append] at hL
    exact bk_LG_a hL
  have hc : ∀ f ∈ a.filter (bk_mb D), bk_vd D f ∧ f < 201 ∧ (D 63 f = 1 ∨ D 63 f = 2) := fun f hf => by
    have h1 := List.mem_filter.mp hf
    have h2 := hm f (List.mem_append_left _ h1.1)
    exact ⟨hv f (List.mem_append_left _ h1.1), by omega, by simpa [bk_mb] using h1.2⟩
  obtain ⟨SS, r0, r1, r2⟩ := bk_mrun (l := l) (F := F) (na := na) hs hrw hG hc hL2 _ (Nat.le_refl _)
  have hms : (a ++ b).filter (bk_mb D) = a.filter (bk_mb D) ++ b.filter (bk_mb D) := List.filter_append ..
  have hml : ((a ++ b).filter (bk_mb D)).length ≤ 200 := Nat.le_trans (List.length_filter_le ..) hl
  have w66 := fun j hj => (hrw.kt (r2 j hj).2.1) 66 (by omega)
  let mv : Nat → Int := fun j => (((a ++ b).filter (bk_mb D)).getD j 0 : Nat)
  have hmv : ∀ j e : Nat, ((a ++ b).filter (bk_mb D))[j]? = some e → mv j = e := fun j e h => by
    show ((((a ++ b).filter (bk_mb D)).getD j 0 : Nat) : Int) = e
    rw [List.getD_eq_getElem?_getD, h]; rfl
  have hA := c_mArrange (l := l) (F := F) (na := na) (G := G) (pt := pt) (SS := SS) (mv := mv) (m := (a.filter (bk_mb D)).length) (n := ((a ++ b).filter (bk_mb D)).length) hpt (by omega) r0.symm (fun j hj => (r2 j hj).2.2) (by rw [hms, List.length_append]; omega)
    (fun j hj => by rw [(r2 j hj).2.1 47 (by decide) (by decide)]; exact hmr.1)
    (fun j hj hj2 => by
      have hg := List.getElem?_eq_getElem hj2
      rw [hmv j _ hg, (r2 j hj).2.1 70 (by decide) (by decide)]
      have := hm _ (List.mem_filter.mp (List.getElem_mem hj2)).1
      exact ⟨hmr.2 j _ hg, by omega, by omega⟩)
    (fun j hj => by
      have hg : ((a ++ b).filter (bk_mb D))[j]? = some (a.filter (bk_mb D))[j] := by rw [hms, List.getElem?_append_left hj]; exact List.getElem?_eq_getElem hj
      rw [hmv j _ hg, w66 j (by omega)]
      exact hpf.1 _ (List.mem_filter.mp (List.getElem_mem hj)).1)
    (by
      by_cases hb0 : (b.filter (bk_mb D)).length = 0
      · exact Or.inl (by rw [hms, List.length_append]; omega)
      · refine Or.inr ⟨by rw [hms, List.length_append]; omega, ?_⟩
        have h0 : 0 < (b.filter (bk_mb D)).length := by omega
        have hg : ((a ++ b).filter (bk_mb D))[(a.filter (bk_mb D)).length]? = some (b.filter (bk_mb D))[0] := by
          rw [hms, List.getElem?_append_right (Nat.le_refl _), Nat.sub_self]; exact List.getElem?_eq_getElem h0
        rw [hmv _ _ hg, w66 _ (Nat.le_refl _)]
        exact hpf.2 _ (List.mem_filter.mp (List.getElem_mem h0)).1)
    (fun j hj => by
      have hg : (a.filter (bk_mb D))[j]? = some (a.filter (bk_mb D))[j] := List.getElem?_eq_getElem hj
      have hg2 : ((a ++ b).filter (bk_mb D))[j]? = some (a.filter (bk_mb D))[j] := by rw [hms, List.getElem?_append_left hj]; exact hg
      rw [hmv j _ hg2]
      exact r1 j _ hj hg)
  refine ⟨_, hA, (r2 _ (Nat.le_refl _)).2.1, ?_, (r2 _ (Nat.le_refl _)).2.2⟩
  have := (r2 _ (Nat.le_refl _)).1
  rw [List.take_length, ← List.filter_reverse] at this
  intro t ht
  have h9 := this t ht
  rw [bk_TR_f] at h9
  exact h9
/-! sorting the moves -/
theorem bk_nd_len : ∀ {m : Nat} {l : List Nat}, l.Nodup → (∀ x ∈ l, x < m) → l.length ≤ m
  | 0, l, _, h => by
    cases l with
    | nil => exact Nat.le_refl _
    | cons a l => exact absurd (h a List.mem_cons_self) (Nat.not_lt_zero _)
  | m + 1, l, hn, h => by
    have h1 : (l.erase m).length ≤ m := bk_nd_len (hn.erase m) (fun x hx => by
      have h2 := (List.Nodup.mem_erase_iff hn).mp hx
      have := h x h2.2
      have := h2.1
      omega)
    by_cases e : m ∈ l
    · rw [List.length_erase_of_mem e] at h1; omega
    · rw [List.erase_of_not_mem e] at h1; omega
def bk_ks (G H : hb_G) : Prop := (∀ p : Nat, p ≠ 70 → p ≠ 47 → H p = G p) ∧ ∀ i : Int, i ≠ 26 → H 47 i = G 47 i
def bk_lt (D : hb_G) (e f : Nat) : Prop := D 66 e < D 66 f
theorem bk_lt_nd {D : hb_G} {c : List Nat} (h : c.Pairwise (bk_lt D)) : c.Nodup := h.imp (fun {a b} h9 e => by subst e; unfold bk_lt at h9; omega)
def bk_row (S : hb_G) (c : List Nat) : Prop := S 47 26 = c.length ∧ ∀ (j e : Nat), c[j]? = some e → S 70 j = e
theorem bk_fil_e {c1 c2 : List Nat} {e : Nat} (h1 : e ∉ c1) (h2 : e ∉ c2) : (c1 ++ e :: c2).filter (fun x => decide (x < e + 1)) = c1.filter (fun x => decide (x < e)) ++ e :: c2.filter (fun x => decide (x < e)) ∧ (c1 ++ e :: c2).filter (fun x => decide (x < e)) = c1.filter (fun x => decide (x < e)) ++ c2.filter (fun x => decide (x < e)) := by
  have hf : ∀ c : List Nat, e ∉ c → c.filter (fun x => decide (x < e + 1)) = c.filter (fun x => decide (x < e)) := fun c hc => by
    apply List.filter_congr
    intro x hx
    have : x ≠ e := fun h => hc (h ▸ hx)
    exact decide_eq_decide.mpr (by omega)
  constructor
  · rw [List.filter_append, List.filter_cons_of_pos (by simp), hf _ h1, hf _ h2]
  · rw [List.filter_append, List.filter_cons_of_neg (by simp)]
theorem bk_fil_x {c : List Nat} {e : Nat} (h : e ∉ c) : c.filter (fun x => decide (x < e + 1)) = c.filter (fun x => decide (x < e)) := by
  apply List.filter_congr
  intro x hx
  have : x ≠ e := fun h9 => h (h9 ▸ hx)
  exact decide_eq_decide.mpr (by omega)
theorem bk_sortrun {D G : hb_G} {n : Nat} {c : List Nat} (hrw : bk_rw D G) (hn : n ≤ 200) (hn2 : G 47 17 = n) (hG : hb_rg G) (hc : c.Pairwise (bk_lt D)) (hm : ∀ e, e ∈ c ↔ e < n ∧ D 64 e ≠ 0 ∧ (D 63 e = 1 ∨ D 63 e = 2)) : ∀ m : Nat, m ≤ n → ∃ (SS : Nat → hb_G), SS 0 = hb_u2 G 47 26 0 ∧
    (∀ e : Nat, e ≤ m → hb_rg (SS e) ∧ bk_ks G (SS e) ∧ bk_row (SS e) (c.filter (fun x => decide (x < e)))) ∧
    (∀ e : Nat, e < m → (¬ hb_jv (SS e) e ∧ SS (e + 1) = SS e ∧ (c.filter (fun x => decide (x < e + 1))).length = (c.filter (fun x => decide (x < e))).length) ∨ (hb_jv (SS e) e ∧ (c.filter (fun x => decide (x < e + 1))).length = (c.filter (fun x => decide (x < e))).length + 1 ∧ ∃ i : Int, (0 ≤ i ∧ i ≤ (c.filter (fun x => decide (x < e))).length) ∧ (∀ k, i ≤ k ∧ k < (c.filter (fun x => decide (x < e))).length → SS e 66 e < SS e 66 (SS e 70 k)) ∧ (i = 0 ∨ (0 < i ∧ SS e 66 (SS e 70 (i - 1)) ≤ SS e 66 e)) ∧ SS (e + 1) = hb_u2 (hb_u1 (SS e) 70 (hb_zs (SS e 70) (c.filter (fun x => decide (x < e))).length i e)) 47 26 ((c.filter (fun x => decide (x < e))).length + 1)))
  | 0, _ => ⟨fun _ => hb_u2 G 47 26 0, rfl, fun e he => by
      have : e = 0 := by omega
      subst this
      have h0 : c.filter (fun x => decide (x < 0)) = [] := by simp
      refine ⟨hG.u2 (by decide), ⟨fun p h1 h2 => hb_u2_n h2, fun i hi => hb_u2_i hi⟩, ?_⟩
      rw [h0]
      exact ⟨hb_u2_s, fun j e h => by simp at h⟩, fun e he => absurd he (Nat.not_lt_zero _)⟩
  | m + 1, hm1 => by
    obtain ⟨SS, h0, h1, h2⟩ := bk_sortrun hrw hn hn2 hG hc hm m (by omega)
    obtain ⟨g1, g2, g3⟩ := h1 m (Nat.le_refl _)
    have w := fun (p : Nat) (hp : 48 ≤ p ∧ p ≤ 69) => (g2.1 p (by omega) (by omega)).trans (hrw p hp)
    have hjv : hb_jv (SS m) m ↔ (D 64 m ≠ 0 ∧ (D 63 m = 1 ∨ D 63 m = 2)) := by
      unfold hb_jv; rw [w 64 (by omega), w 63 (by omega)]
    -- what comes next
    have key : ∃ T : hb_G, hb_rg T ∧ bk_ks G T ∧ bk_row T (c.filter (fun x => decide (x < m + 1))) ∧ ((¬ hb_jv (SS m) m ∧ T = SS m ∧ (c.filter (fun x => decide (x < m + 1))).length = (c.filter (fun x => decide (x < m))).length) ∨ (hb_jv (SS m) m ∧ (c.filter (fun x => decide (x < m + 1))).length = (c.filter (fun x => decide (x < m))).length + 1 ∧ ∃ i : Int, (0 ≤ i ∧ i ≤ (c.filter (fun x => decide (x < m))).length) ∧ (∀ k, i ≤ k ∧ k < (c.filter (fun x => decide (x < m))).length → SS m 66 m < SS m 66 (SS m 70 k)) ∧ (i = 0 ∨ (0 < i ∧ SS m 66 (SS m 70 (i - 1)) ≤ SS m 66 m)) ∧ T = hb_u2 (hb_u1 (SS m) 70 (hb_zs (SS m 70) (c.filter (fun x => decide (x < m))).length i m)) 47 26 ((c.filter (fun x => decide (x < m))).length + 1))) := by
      by_cases hj : hb_jv (SS m) m
      · have hmem : m ∈ c := (hm m).mpr ⟨by omega, hjv.mp hj⟩
        obtain ⟨c1, c2, hcc⟩ := List.append_of_mem hmem
        have hc9 := hc
        rw [hcc] at hc9
        have hpa := List.pairwise_append.mp hc9
        have hb1 : ∀ f ∈ c1, D 66 f < D 66 m := fun f hf => hpa.2.2 f hf m List.mem_cons_self
        have hb2 : ∀ f ∈ c2, D 66 m < D 66 f := fun f hf => (List.pairwise_cons.mp hpa.2.1).1 f hf
        have hn1 : m ∉ c1 := fun h => by have := hb1 m h; omega
        have hn2' : m ∉ c2 := fun h => by have := hb2 m h; omega
        obtain ⟨f1, f2⟩ := bk_fil_e hn1 hn2'
        rw [← hcc] at f1 f2
        have hlen : (c.filter (fun x => decide (x < m))).length = (c1.filter (fun x => decide (x < m))).length + (c2.filter (fun x => decide (x < m))).length := by rw [f2, List.length_append]
        have hlen2 : (c.filter (fun x => decide (x < m + 1))).length = (c.filter (fun x => decide (x < m))).length + 1 := by rw [f1, f2]; simp; omega
        have hl200 : (c.filter (fun x => decide (x < m))).length ≤ 200 := by
          have hnd : (c.filter (fun x => decide (x < m))).Nodup := (bk_lt_nd hc).filter _
          have hsub : ∀ x ∈ c.filter (fun x => decide (x < m)), x ∈ List.range m := fun x hx => List.mem_range.mpr (by simpa using (List.mem_filter.mp hx).2)
          have := bk_nd_len hnd (fun x hx => List.mem_range.mp (hsub x hx))
          omega
        refine ⟨_, ?_, ?_, ?_, Or.inr ⟨hj, hlen2, (((c1.filter (fun x => decide (x < m))).length : Nat) : Int), ⟨by omega, by omega⟩, fun k hk => ?_, ?_, rfl⟩⟩
        · intro p i
          by_cases p7 : p = 47
          · subst p7
            by_cases i6 : i = 26
            · subst i6; rw [hb_u2_s]; constructor <;> omega
            · rw [hb_u2_i i6, hb_u1_n (by decide)]; exact g1 _ _
          · rw [hb_u2_n p7]
            by_cases p0 : p = 70
            · subst p0; rw [hb_u1_s]; unfold hb_zs
              split
              · constructor <;> omega
              · split <;> exact g1 _ _
            · rw [hb_u1_n p0]; exact g1 _ _
        · exact ⟨fun p a1 a2 => by rw [hb_u2_n a2, hb_u1_n a1]; exact g2.1 p a1 a2, fun i hi => by rw [hb_u2_i hi, hb_u1_n (by decide)]; exact g2.2 i hi⟩
        · refine ⟨by rw [hb_u2_s, hlen2]; omega, fun j e he => ?_⟩
          rw [hb_u2_n (by decide), hb_u1_s]
          unfold hb_zs
          rw [f1] at he
          by_cases j1 : (j : Int) = ((c1.filter (fun x => decide (x < m))).length : Nat)
          · rw [if_pos j1]
            have : j = (c1.filter (fun x => decide (x < m))).length := by omega
            rw [this, List.getElem?_append_right (Nat.le_refl _), Nat.sub_self] at he
            have he : some m = some e := he
            cases he; rfl
          · rw [if_neg j1]
            rcases Nat.lt_or_ge j (c1.filter (fun x => decide (x < m))).length with j2 | j2
            · rw [if_neg (by omega)]
              rw [List.getElem?_append_left j2] at he
              refine g3.2 j e ?_
              rw [f2, List.getElem?_append_left j2]; exact he
            · rw [List.getElem?_append_right j2] at he
              obtain ⟨k, hk⟩ : ∃ k, j - (c1.filter (fun x => decide (x < m))).length = k + 1 := ⟨j - (c1.filter (fun x => decide (x < m))).length - 1, by omega⟩
              rw [hk, List.getElem?_cons_succ] at he
              have hkl := (List.getElem?_eq_some_iff.mp he).1
              rw [if_pos (by omega)]
              have h9 := g3.2 (j - 1) e (by rw [f2, List.getElem?_append_right (by omega), show j - 1 - (c1.filter (fun x => decide (x < m))).length = k by omega]; exact he)
              rw [show ((j - 1 : Nat) : Int) = (j : Int) - 1 by omega] at h9
              exact h9
        · have hk2 : k.toNat < (c.filter (fun x => decide (x < m))).length := by omega
          obtain ⟨x, hg⟩ : ∃ x, (c.filter (fun x => decide (x < m)))[k.toNat]? = some x := ⟨_, List.getElem?_eq_getElem hk2⟩
          have h9 := g3.2 k.toNat _ hg
          rw [Int.toNat_of_nonneg (by omega)] at h9
          rw [h9, w 66 (by omega)]
          rw [f2, List.getElem?_append_right (by omega)] at hg
          exact hb2 _ (List.mem_filter.mp (List.mem_of_getElem? hg)).1
        · by_cases hz : (c1.filter (fun x => decide (x < m))).length = 0
          · exact Or.inl (by omega)
          · refine Or.inr ⟨by omega, ?_⟩
            have hk2 : (c1.filter (fun x => decide (x < m))).length - 1 < (c.filter (fun x => decide (x < m))).length := by omega
            obtain ⟨x, hg⟩ : ∃ x, (c.filter (fun x => decide (x < m)))[(c1.filter (fun x => decide (x < m))).length - 1]? = some x := ⟨_, List.getElem?_eq_getElem hk2⟩
            have h9 := g3.2 _ _ hg
            rw [show (((c1.filter (fun x => decide (x < m))).length - 1 : Nat) : Int) = (((c1.filter (fun x => decide (x < m))).length : Nat) : Int) - 1 by omega] at h9
            rw [h9, w 66 (by omega)]
            rw [f2, List.getElem?_append_left (by omega)] at hg
            exact Int.le_of_lt (hb1 _ (List.mem_filter.mp (List.mem_of_getElem? hg)).1)
      · have hnm : m ∉ c := fun h => hj (hjv.mpr ((hm m).mp h).2)
        rw [bk_fil_x hnm]
        exact ⟨SS m, g1, g2, g3, Or.inl ⟨hj, rfl, rfl⟩⟩
    obtain ⟨T, t1, t2, t3, t4⟩ := key
    refine ⟨fun j => if j ≤ m then SS j else T, ?_, fun j hj => ?_, fun j hj => ?_⟩
    · show (if 0 ≤ m then SS 0 else _) = _
      rw [if_pos (Nat.zero_le _)]; exact h0
    · show hb_rg (if j ≤ m then SS j else _) ∧ bk_ks G (if j ≤ m then SS j else _) ∧ bk_row (if j ≤ m then SS j else _) _
      by_cases hj2 : j ≤ m
      · rw [if_pos hj2]; exact h1 j hj2
      · have : j = m + 1 := by omega
        subst this
        rw [if_neg hj2]; exact ⟨t1, t2, t3⟩
    · show (¬ hb_jv (if j ≤ m then SS j else _) j ∧ (if j + 1 ≤ m then SS (j + 1) else _) = (if j ≤ m then SS j else _) ∧ _) ∨ _
      have e1 : (if j ≤ m then SS j else T) = SS j := if_pos (by omega)
      simp only [e1]
      by_cases hj2 : j + 1 ≤ m
      · have e2 : (if j + 1 ≤ m then SS (j + 1) else T) = SS (j + 1) := if_pos hj2
        simp only [e2]
        exact h2 j (by omega)
      · have : j = m := by omega
        subst this
        have e2 : (if j + 1 ≤ j then SS (j + 1) else T) = T := if_neg hj2
        simp only [e2]
        exact t4
theorem bk_sort {l : Launch} {D G : hb_G} {F : hb_F} {na n : Nat} {c : List Nat} (hrw : bk_rw D G) (hn : n ≤ 200) (hn2 : G 47 17 = n) (hG : hb_rg G) (hc : c.Pairwise (bk_lt D)) (hm : ∀ e, e ∈ c ↔ e < n ∧ D 64 e ≠ 0 ∧ (D 63 e = 1 ∨ D 63 e = 2)) : ∃ H, hb_M l yX9_sortMoves cX9_sortMoves 3 none 1 0 0 [hb_r 47] (hb_w G F na) (77 + na) (.inl none) (hb_w H F na) (77 + na) ∧ hb_rg H ∧ bk_ks G H ∧ bk_row H c := by
  obtain ⟨SS, h0, h1, h2⟩ := bk_sortrun hrw hn hn2 hG hc hm n (Nat.le_refl _)
  have hcl : ∀ e : Nat, e ≤ n → (c.filter (fun x => decide (x < e))).length ≤ e := fun e he => by
    have hnd : (c.filter (fun x => decide (x < e))).Nodup := (bk_lt_nd hc).filter _
    have hsub : ∀ x ∈ c.filter (fun x => decide (x < e)), x ∈ List.range e := fun x hx => List.mem_range.mpr (by simpa using (List.mem_filter.mp hx).2)
    exact bk_nd_len hnd (fun x hx => List.mem_range.mp (hsub x hx))
  have hM := c_mSort (l := l) (F := F) (na := na) (G := G) (SS := SS) (cc := fun e => (((c.filter (fun x => decide (x < e))).length : Nat) : Int)) (n := n) (by omega) h0.symm (by simp) (fun e he => (h1 e he).1)
    (fun e he => by
      obtain ⟨g1, g2, g3⟩ := h1 e he
      refine ⟨by rw [g2.2 17 (by decide)]; exact hn2, g3.1, ⟨by omega, by have := hcl e he; omega⟩, fun k hk => ?_⟩
      have hk2 : k.toNat < (c.filter (fun x => decide (x < e))).length := by omega
      have hg := List.getElem?_eq_getElem hk2
      have h9 := g3.2 k.toNat _ hg
      rw [Int.toNat_of_nonneg hk.1] at h9
      rw [h9]
      have := ((hm _).mp (List.mem_filter.mp (List.getElem_mem hk2)).1).1
      omega)
    (fun e he => by
      rcases h2 e he with ⟨a1, a2, a3⟩ | ⟨a1, a2, a3⟩
      · exact Or.inl ⟨a1, a2, by rw [a3]⟩
      · exact Or.inr ⟨a1, by rw [a2]; omega, a3⟩)
  refine ⟨_, hM, (h1 n (Nat.le_refl _)).1, (h1 n (Nat.le_refl _)).2.1, ?_⟩
  have := (h1 n (Nat.le_refl _)).2.2
  have hcf : c.filter (fun x => decide (x < n)) = c := List.filter_eq_self.mpr (fun x hx => decide_eq_true ((hm x).mp hx).1)
  rw [hcf] at this
  exact this

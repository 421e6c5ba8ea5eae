/-! strike -/
theorem bk_64_TR {D : hb_G} {e v : Int} : ∀ {r : List Nat}, bk_TR (hb_u2 D 64 e v) r = bk_TR D r
  | [] => rfl
  | f :: r => by
    show bk_st (hb_u2 D 64 e v) (bk_TR (hb_u2 D 64 e v) r) f = bk_st D (bk_TR D r) f
    rw [bk_64_TR (r := r)]
    rfl
theorem bk_64_LG {D : hb_G} {e v : Int} : ∀ {r : List Nat}, bk_LG (hb_u2 D 64 e v) r ↔ bk_LG D r
  | [] => Iff.rfl
  | f :: r => by
    show bk_ok (hb_u2 D 64 e v) (bk_TR (hb_u2 D 64 e v) r) f ∧ bk_LG (hb_u2 D 64 e v) r ↔ bk_ok D (bk_TR D r) f ∧ bk_LG D r
    rw [bk_64_TR, bk_64_LG]
    exact Iff.rfl
theorem bk_64_dt {D : hb_G} {n e : Nat} {x1 x2 : List Nat} (hd : bk_dt D n (x1 ++ e :: x2)) : bk_dt (hb_u2 D 64 e 0) n (x1 ++ x2) := by
  obtain ⟨b1, b2, b3, b4, b5, b6⟩ := hd
  have hnd := bk_nd b2
  have hpa := List.pairwise_append.mp b2
  have hne : ∀ f ∈ x1 ++ x2, f ≠ e := fun f hf h => by
    subst h
    rcases List.mem_append.mp hf with h | h
    · exact bk_bf_ir ((bk_sp b2).1 f h)
    · exact bk_bf_ir ((bk_sp b2).2 f h)
  have hsub : ∀ f, f ∈ x1 ++ e :: x2 ↔ f = e ∨ f ∈ x1 ++ x2 := fun f => by
    simp only [List.mem_append, List.mem_cons]
    constructor
    · rintro (h | h | h)
      · exact Or.inr (Or.inl h)
      · exact Or.inl h
      · exact Or.inr (Or.inr h)
    · rintro (h | h | h)
      · exact Or.inr (Or.inl h)
      · exact Or.inl h
      · exact Or.inr (Or.inr h)
  refine ⟨b1, ?_, fun f => ?_, fun f hf => ?_, b5, ?_⟩
  · show (x1 ++ x2).Pairwise (bk_bf D)
    exact List.pairwise_append.mpr ⟨hpa.1, (List.pairwise_cons.mp hpa.2.1).2, fun a ha b hb => hpa.2.2 a ha b (List.mem_cons_of_mem _ hb)⟩
  · by_cases h : f = e
    · subst h
      rw [hb_u2_s]
      exact ⟨fun h => absurd rfl (hne f h), fun h => absurd rfl h.2⟩
    · rw [hb_u2_i (by omega)]
      rw [← b3, hsub]
      exact ⟨Or.inr, fun h9 => h9.elim (fun h8 => absurd h8 h) id⟩
  · obtain ⟨⟨v1, v2, v3⟩, v4⟩ := b4 f hf
    refine ⟨⟨v1, ?_, v3⟩, v4⟩
    by_cases h : f = e
    · subst h; rw [hb_u2_s]; exact Or.inl rfl
    · rw [hb_u2_i (by omega)]; exact v2
  · show ((x1 ++ x2).filter (bk_mb D)).Pairwise (bk_lt D)
    rw [List.filter_append] at b6 ⊢
    have h9 := List.pairwise_append.mp b6
    have hs : ∀ f, f ∈ x2.filter (bk_mb D) → f ∈ (e :: x2).filter (bk_mb D) := fun f hf => List.mem_filter.mpr ⟨List.mem_cons_of_mem _ (List.mem_filter.mp hf).1, (List.mem_filter.mp hf).2⟩
    have hp2 : (x2.filter (bk_mb D)).Pairwise (bk_lt D) := by
      by_cases h : bk_mb D e = true
      · rw [List.filter_cons_of_pos h] at h9; exact (List.pairwise_cons.mp h9.2.1).2
      · rw [List.filter_cons_of_neg h] at h9; exact h9.2.1
    exact List.pairwise_append.mpr ⟨h9.1, hp2, fun a ha b hb => h9.2.2 a ha b (hs b hb)⟩
theorem en_erase {l : Launch} {D G : hb_G} {F : hb_F} {na n e : Nat} {x1 x2 : List Nat} {ob : Nat → Nat} (hcl : bk_cl D G F na n (x1 ++ e :: x2) ob) (hd : bk_dt D n (x1 ++ e :: x2)) (hG : hb_rg G) :
    ((¬ (D 63 e = 1 ∨ D 63 e = 2) ∨ bk_LG D (x1 ++ x2).reverse) → ∃ (G1 : hb_G) (F1 : hb_F), hb_M l yX0_erase cX0_erase 3 (some .boolean) 4 0 0 [hb_r 25, hb_i e] (hb_w G F na) (77 + na) (.inl (some (hb_i 1))) (hb_w G1 F1 na) (77 + na) ∧ bk_cl (hb_u2 D 64 e 0) G1 F1 na n (x1 ++ x2) ob ∧ (∀ p : Nat, p ≠ 25 → p ≠ 29 → p ≠ 30 → p ≠ 31 → G1 p = G p) ∧ hb_rg G1) ∧
    (((D 63 e = 1 ∨ D 63 e = 2) ∧ ¬ bk_LG D (x1 ++ x2).reverse) → ∃ (G1 : hb_G) (F1 : hb_F), hb_M l yX0_erase cX0_erase 3 (some .boolean) 4 0 0 [hb_r 25, hb_i e] (hb_w G F na) (77 + na) (.inl (some (hb_i 0))) (hb_w G1 F1 na) (77 + na) ∧ bk_cl D G1 F1 na n (x1 ++ e :: x2) ob ∧ (∀ p : Nat, p ≠ 25 → p ≠ 29 → p ≠ 30 → p ≠ 31 → G1 p = G p) ∧ hb_rg G1) := by
  obtain ⟨a1, a2, a3, a4, a5, a6, a7, a8, a9⟩ := hcl
  obtain ⟨b1, b2, b3, b4, b5, b6⟩ := hd
  have hlt : ∀ f ∈ x1 ++ e :: x2, f < n := fun f hf => ((b3 f).mp hf).1
  have hme : e ∈ x1 ++ e :: x2 := List.mem_append_right _ List.mem_cons_self
  have hen := hlt e hme
  have hlen : (x1 ++ e :: x2).length ≤ n := bk_nd_len (bk_nd b2) hlt
  have hll : (x1 ++ e :: x2).length = x1.length + (x2.length + 1) := by rw [List.length_append, List.length_cons]
  have hsub : ∀ f, f ∈ x1 ++ x2 → f ∈ x1 ++ e :: x2 := fun f hf => by
    rcases List.mem_append.mp hf with h | h
    · exact List.mem_append_left _ h
    · exact List.mem_append_right _ (List.mem_cons_of_mem _ h)
  have hne : ∀ f ∈ x1 ++ x2, f ≠ e := fun f hf h => by
    subst h
    rcases List.mem_append.mp hf with h | h
    · exact bk_bf_ir ((bk_sp b2).1 f h)
    · exact bk_bf_ir ((bk_sp b2).2 f h)
  have ht : bk_tm D G F na (x1 ++ e :: x2) ob := ⟨by omega, a3, a4, fun j f hf => by
    have hj := List.getElem?_eq_some_iff.mp hf
    rw [a5 j hj.1, hj.2]⟩
  obtain ⟨F1, v1, v2, v3⟩ := bk_rem (l := l) (n := e) ht (fun f hf h => hne f hf (a8 f (hsub f hf) e hme h)) hG
  let Gr : hb_G := hb_u2 G 25 4 (G 25 4 - 1)
  have hGr : hb_rg Gr := hG.u2 (by rw [a3]; constructor <;> omega)
  have rGr : ∀ p : Nat, p ≠ 25 → Gr p = G p := fun p hp => hb_u2_n hp
  have hslr : bk_sl D Gr := a1
  have hvr : ∀ f ∈ x1 ++ x2, bk_vd D f := fun f hf => (b4 f (hlt f (hsub f hf))).1
  have hP := bk_poss (l := l) b1 hslr v2 hvr hGr
  have hF26 : F 26 (e : Int) = some (77 + ob e) := a6 e hme
  have ho := (a4 e hme).1
  have hob := (a4 e hme).2
  have hmvo := bk_mvo hob (b4 e hen).1.1.1
  have r0 : hb_u2 G 25 4 (G 25 4 - 1) (77 + ob e) 0 = G (77 + ob e) 0 := by rw [hb_u2_n (by omega)]
  have fin : ∀ H : hb_G, (∀ p : Nat, p ≠ 29 → p ≠ 30 → p ≠ 31 → H p = Gr p) → bk_cl (hb_u2 D 64 e 0) H (hb_v2 F1 26 e none) na n (x1 ++ x2) ob ∧ (∀ p : Nat, p ≠ 25 → p ≠ 29 → p ≠ 30 → p ≠ 31 → H p = G p) := by
    intro H hH
    have hr : ∀ p : Nat, p ≠ 25 → p ≠ 29 → p ≠ 30 → p ≠ 31 → H p = G p := fun p q1 q2 q3 q4 => by rw [hH p q2 q3 q4]; exact rGr p q1
    refine ⟨⟨?_, ?_, ?_, fun f hf => ⟨(v2.2.2.1 f hf).1, ?_⟩, fun j hj => v2.2.2.2 j _ (List.getElem?_eq_getElem hj), fun f hf => ?_, fun f hf hnf => ?_, fun f hf g hg h => a8 f (hsub f hf) g (hsub g hg) h, ?_⟩, hr⟩
    · show bk_sl D H
      unfold bk_sl
      rw [hr 2 (by decide) (by decide) (by decide) (by decide), hr 7 (by decide) (by decide) (by decide) (by decide), hr 9 (by decide) (by decide) (by decide) (by decide), hr 10 (by decide) (by decide) (by decide) (by decide), hr 11 (by decide) (by decide) (by decide) (by decide), hr 13 (by decide) (by decide) (by decide) (by decide), hr 15 (by decide) (by decide) (by decide) (by decide), hr 16 (by decide) (by decide) (by decide) (by decide), hr 17 (by decide) (by decide) (by decide) (by decide), hr 18 (by decide) (by decide) (by decide) (by decide), hr 20 (by decide) (by decide) (by decide) (by decide), hr 21 (by decide) (by decide) (by decide) (by decide), hr 22 (by decide) (by decide) (by decide) (by decide), hr 23 (by decide) (by decide) (by decide) (by decide), hr 24 (by decide) (by decide) (by decide) (by decide), hr 4 (by decide) (by decide) (by decide) (by decide), hr 5 (by decide) (by decide) (by decide) (by decide)]
      exact a1
    · rw [hH 25 (by decide) (by decide) (by decide)]; show hb_u2 G 25 4 _ 25 3 = _; rw [hb_u2_i (by decide)]; exact a2
    · rw [hH 25 (by decide) (by decide) (by decide)]; exact v2.2.1
    · show bk_obj D H f (77 + ob f)
      unfold bk_obj; rw [hH _ (by omega) (by omega) (by omega)]; exact (v2.2.2.1 f hf).2
    · show hb_uf (F1 26) e none f = _
      unfold hb_uf; rw [if_neg (by have := hne f hf; omega), v3]; exact a6 f (hsub f hf)
    · show hb_uf (F1 26) e none f = _
      unfold hb_uf
      by_cases h : (f : Int) = e
      · rw [if_pos h]
      · rw [if_neg h, v3]
        refine a7 f hf (fun h9 => hnf ?_)
        rcases List.mem_append.mp h9 with h8 | h8
        · exact List.mem_append_left _ h8
        · exact List.mem_append_right _ ((List.mem_cons.mp h8).elim (fun h7 => absurd (by rw [h7]) h) id)
    · rw [hr 6 (by decide) (by decide) (by decide) (by decide), hr 7 (by decide) (by decide) (by decide) (by decide)]; exact a9
  constructor
  · intro hor
    by_cases hmv : D 63 e = 1 ∨ D 63 e = 2
    · have hL : bk_LG D (x1 ++ x2).reverse := hor.elim (fun h => absurd hmv h) id
      obtain ⟨H, p1, p2, p3⟩ := hP.1 hL
      have h := c_eraseMove (l := l) (e := ob e) (v := e) ho (by omega) hF26 v1 hGr (by rw [r0]; exact hmvo.mpr hmv) p1
      obtain ⟨q1, q2⟩ := fin H p2
      exact ⟨_, _, h, q1, q2, p3⟩
    · have h := c_erasePlain (l := l) (e := ob e) (v := e) ho (by omega) hF26 v1 hGr (by rw [r0]; exact fun h => hmv (hmvo.mp h))
      obtain ⟨q1, q2⟩ := fin Gr (fun _ _ _ _ => rfl)
      exact ⟨_, _, h, q1, q2, hGr⟩
  · rintro ⟨hmv, hL⟩
    obtain ⟨H, p1, p2, p3⟩ := hP.2 hL
    have hTH : bk_tm D H F1 na (x1 ++ x2) ob := ⟨v2.1, by rw [p2 25 (by decide) (by decide) (by decide)]; exact v2.2.1, fun f hf => ⟨(v2.2.2.1 f hf).1, by unfold bk_obj; rw [p2 _ (by omega) (by omega) (by omega)]; exact (v2.2.2.1 f hf).2⟩, v2.2.2.2⟩
    have hobH : bk_obj D H e (77 + ob e) := by unfold bk_obj; rw [p2 _ (by omega) (by omega) (by omega), rGr _ (by omega)]; exact hob
    obtain ⟨F2, w1, w2, w3⟩ := bk_ins (l := l) (n := e) (o := ob e) hTH (by rw [List.length_append]; omega) ho hobH rfl (bk_sp b2).1 (bk_sp b2).2 p3
    have h := c_eraseNot (l := l) (e := ob e) (v := e) ho (by omega) hF26 v1 hGr (by rw [r0]; exact hmvo.mpr hmv) p1 w1
    have hr : ∀ p : Nat, p ≠ 25 → p ≠ 29 → p ≠ 30 → p ≠ 31 → hb_u2 H 25 4 (H 25 4 + 1) p = G p := fun p q1 q2 q3 q4 => by rw [hb_u2_n q1, p2 p q2 q3 q4]; exact rGr p q1
    refine ⟨_, F2, h, ⟨?_, ?_, w2.2.1, w2.2.2.1, fun j hj => w2.2.2.2 j _ (List.getElem?_eq_getElem hj), fun f hf => by rw [w3, v3]; exact a6 f hf, fun f hf hnf => by rw [w3, v3]; exact a7 f hf hnf, a8, ?_⟩, hr, p3.u2 ?_⟩
    · unfold bk_sl
      rw [hr 2 (by decide) (by decide) (by decide) (by decide), hr 7 (by decide) (by decide) (by decide) (by decide), hr 9 (by decide) (by decide) (by decide) (by decide), hr 10 (by decide) (by decide) (by decide) (by decide), hr 11 (by decide) (by decide) (by decide) (by decide), hr 13 (by decide) (by decide) (by decide) (by decide), hr 15 (by decide) (by decide) (by decide) (by decide), hr 16 (by decide) (by decide) (by decide) (by decide), hr 17 (by decide) (by decide) (by decide) (by decide), hr 18 (by decide) (by decide) (by decide) (by decide), hr 20 (by decide) (by decide) (by decide) (by decide), hr 21 (by decide) (by decide) (by decide) (by decide), hr 22 (by decide) (by decide) (by decide) (by decide), hr 23 (by decide) (by decide) (by decide) (by decide), hr 24 (by decide) (by decide) (by decide) (by decide), hr 4 (by decide) (by decide) (by decide) (by decide), hr 5 (by decide) (by decide) (by decide) (by decide)]
      exact a1
    · rw [hb_u2_i (by decide), p2 25 (by decide) (by decide) (by decide)]; show hb_u2 G 25 4 _ 25 3 = _; rw [hb_u2_i (by decide)]; exact a2
    · rw [hr 6 (by decide) (by decide) (by decide) (by decide), hr 7 (by decide) (by decide) (by decide) (by decide)]; exact a9
    · rw [p2 25 (by decide) (by decide) (by decide)]
      show hb_in (hb_u2 G 25 4 (G 25 4 - 1) 25 4 + 1)
      rw [hb_u2_s, a3]; constructor <;> omega
theorem st_strike {l : Launch} (hl : l.stackTraces = false) {v : Int} (iv : hb_in v) : hb_stS l bk_I yL_strike cL_strike 3 [(0, 5, 8, 13), (0, 5, 11, 15)] yX9_strike cX9_strike 3 [hb_i v] := by
  intro G F na hI
  obtain ⟨D, n, xs, ob, hJ, hsh, hG, hbn⟩ := hI
  obtain ⟨hcl, hd, hLG, hmi, hrf⟩ := bk_of_J hJ
  have hrw := hrf.1
  have h17 := hrf.2.2.1
  have hn200 := hd.2.2.2.2.1
  have hm3 : G 25 3 ≤ 200 := by rw [hcl.2.1]; omega
  have hlt : ∀ f ∈ xs, f < n := fun f hf => ((hd.2.2.1 f).mp hf).1
  have hlen : xs.length ≤ n := bk_nd_len (bk_nd hd.2.1) hlt
  have hiff : ((0 ≤ v ∧ v < G 25 3) ∧ F 26 v ≠ none) ↔ ((0 ≤ v ∧ v < G 47 17) ∧ G 64 v ≠ 0) := by
    rw [hcl.2.1, h17, hrw 64 (by omega)]
    refine and_congr_right fun hv => ?_
    have hvn : ((v.toNat : Nat) : Int) = v := Int.toNat_of_nonneg hv.1
    have h3 := hd.2.2.1 v.toNat
    rw [hvn] at h3
    constructor
    · intro h
      refine Classical.byContradiction fun h9 => h ?_
      have := hcl.2.2.2.2.2.2.1 v.toNat (by omega) (fun hm => h9 (h3.mp hm).2)
      rw [hvn] at this
      exact this
    · intro h
      have := hcl.2.2.2.2.2.1 v.toNat (h3.mpr ⟨by omega, h⟩)
      rw [hvn] at this
      rw [this]; exact fun h => by cases h
  by_cases hP : (0 ≤ v ∧ v < G 25 3) ∧ F 26 v ≠ none
  · have hPm := hiff.mp hP
    have hvn : ((v.toNat : Nat) : Int) = v := Int.toNat_of_nonneg hP.1.1
    generalize hev : v.toNat = e at hvn
    subst hvn
    have hen : e < n := by have := hP.1.2; rw [hcl.2.1] at this; omega
    have hme : e ∈ xs := (hd.2.2.1 e).mpr ⟨hen, by rw [← hrw 64 (by omega)]; exact hPm.2⟩
    obtain ⟨x1, x2, hx⟩ := List.append_of_mem hme
    subst hx
    have hll : (x1 ++ e :: x2).length = x1.length + (x2.length + 1) := by rw [List.length_append, List.length_cons]
    have hl2 : (x1 ++ x2).length = x1.length + x2.length := List.length_append
    have her := en_erase (l := l) hcl hd hG
    have hdE := bk_64_dt hd
    have hnm : ¬ (D 63 e = 1 ∨ D 63 e = 2) → bk_LG D (x1 ++ x2).reverse := fun h => by
      have h9 := hLG
      rw [← bk_LG_f, List.filter_reverse, List.filter_append, List.filter_cons_of_neg (by simpa [bk_mb] using h), ← List.filter_append, ← List.filter_reverse, bk_LG_f] at h9
      exact h9
    -- the reference without the entry
    have ref : ∀ X : hb_G, (∀ p : Nat, 47 ≤ p ∧ p ≤ 75 → X p = G p) → hb_rg X → X 6 = G 6 → bk_rw (hb_u2 D 64 e 0) (hb_u2 (hb_u2 (hb_u2 X 47 0 0) 64 e 0) 47 18 (X 47 18 - 1)) ∧ hb_rg (hb_u2 (hb_u2 (hb_u2 X 47 0 0) 64 e 0) 47 18 (X 47 18 - 1)) ∧ hb_u2 (hb_u2 (hb_u2 X 47 0 0) 64 e 0) 47 18 (X 47 18 - 1) 47 17 = n ∧ hb_u2 (hb_u2 (hb_u2 X 47 0 0) 64 e 0) 47 18 (X 47 18 - 1) 47 18 = (x1 ++ x2).length ∧ hb_u2 (hb_u2 (hb_u2 X 47 0 0) 64 e 0) 47 18 (X 47 18 - 1) 47 4 = hb_u2 (hb_u2 (hb_u2 X 47 0 0) 64 e 0) 47 18 (X 47 18 - 1) 6 4 := by
      intro X hX hXr h6
      have x47 := hX 47 (by omega)
      have x18 : X 47 18 = (x1 ++ e :: x2).length := by rw [x47]; exact hrf.2.2.2.1
      refine ⟨fun q hq => ?_, ((hXr.u2 (by decide)).u2 (by decide)).u2 (by rw [x18]; constructor <;> omega), ?_, ?_, ?_⟩
      · rw [hb_u2_n (by omega)]
        by_cases h : q = 64
        · subst h
          show hb_uf (X 64) e 0 = hb_uf (D 64) e 0
          rw [hX 64 (by omega), hrw 64 (by omega)]
        · rw [hb_u2_n h, hb_u2_n (by omega), hb_u2_n h, hX q (by omega)]; exact hrw q hq
      · rw [hb_u2_i (by decide), hb_u2_n (by decide), hb_u2_i (by decide), x47]; exact h17
      · rw [hb_u2_s, x18, hll, hl2]; omega
      · rw [hb_u2_i (by decide), hb_u2_n (by decide), hb_u2_i (by decide), x47, hb_u2_n (by decide), hb_u2_n (by decide), hb_u2_n (by decide), h6]; exact hrf.2.2.2.2.2
    by_cases hL : bk_LG D (x1 ++ x2).reverse
    · obtain ⟨G1, F1, hE, hclE, hr, hR⟩ := her.1 (Or.inr hL)
      have h := c_LstrikeY (c_strikeY iv hm3 hP hE hG)
      have hX : ∀ p : Nat, 47 ≤ p ∧ p ≤ 75 → hb_u2 G1 32 9 (-1) p = G p := fun p hp => by rw [hb_u2_n (by omega)]; exact hr p (by omega) (by omega) (by omega) (by omega)
      have hXr : hb_rg (hb_u2 G1 32 9 (-1)) := hR.u2 (by decide)
      obtain ⟨q1, q2, q3, q4, q5⟩ := ref _ hX hXr (by rw [hb_u2_n (by decide)]; exact hr 6 (by decide) (by decide) (by decide) (by decide))
      obtain ⟨K, k1, k2, k3, k4, k5⟩ := (bk_ck (l := l) (F := F1) (na := na) hdE q1 q2 q3 q4 q5).1 (bk_64_LG.mpr hL)
      have hPx : (0 ≤ (e : Int) ∧ (e : Int) < hb_u2 G1 32 9 (-1) 47 17) ∧ hb_u2 G1 32 9 (-1) 64 e ≠ 0 := by rw [hX 47 (by omega), hX 64 (by omega)]; exact hPm
      have hF := c_mStrikeY (l := l) iv (by rw [hX 47 (by omega), h17]; omega) hPx k1 hXr
      have rK : ∀ q : Nat, ¬ (47 ≤ q ∧ q ≤ 75) → K q = hb_u2 G1 32 9 (-1) q := fun q hq => by
        rw [k2.1 q (by omega) (by omega) (by omega) (by omega) (by omega), hb_u2_n (by omega), hb_u2_n (by omega), hb_u2_n (by omega)]
      refine ⟨0, _, K, F1, na, 0, 0, 6, by decide, by omega, by omega, by omega, by omega, by omega, h, hF, ?_, _, n, x1 ++ x2, ob, bk_J_of ((hclE.ag (bk_73 (g := K 73)) (fun f hf => ((hdE.2.2.1 f).mp hf).1)).k (fun q hq => ?_)) (bk_dt_73 hdE) (bk_73.LG (fun f hf => ((hdE.2.2.1 f).mp (List.mem_reverse.mp hf)).1) (bk_64_LG.mpr hL)) k5 k4, Or.inl ?_, k3, bk_bn_c (fun q hq => ?_) hbn⟩
      · rw [k2.2 0 (by decide), hb_u2_i (by decide), hb_u2_n (by decide), hb_u2_s]
      · rw [rK q (by omega), hb_u2_n (by omega)]
      · rw [rK 32 (by omega), hb_u2_s]
      · rw [rK q (by omega), hb_u2_n (by omega)]; exact hr q (by omega) (by omega) (by omega) (by omega)
    · have hmv : D 63 e = 1 ∨ D 63 e = 2 := Classical.byContradiction fun h => hL (hnm h)
      obtain ⟨G1, F1, hE, hclD, hr, hR⟩ := her.2 ⟨hmv, hL⟩
      have h := c_LstrikeX (c_strikeX hl iv hm3 hP hE hG)
      have hX : ∀ p : Nat, 32 ≤ p ∧ p ≤ 75 → G1 p = G p := fun p hp => hr p (by omega) (by omega) (by omega) (by omega)
      have h6 : G1 6 = G 6 := hr 6 (by decide) (by decide) (by decide) (by decide)
      obtain ⟨q1, q2, q3, q4, q5⟩ := ref G1 (fun p hp => hX p (by omega)) hR h6
      obtain ⟨H, k1, k2, k3⟩ := (bk_ck (l := l) (F := F1) (na := na) hdE q1 q2 q3 q4 q5).2 (fun h9 => hL (bk_64_LG.mp h9))
      -- the entry comes back
      let Z : hb_G := hb_u2 (hb_u2 H 64 e 1) 47 18 (H 47 18 + 1)
      have hH18 : H 47 18 = (x1 ++ x2).length := (k2.2 18 (by decide)).trans q4
      have hH17 : H 47 17 = n := (k2.2 17 (by decide)).trans q3
      have hrwH : ∀ q : Nat, 48 ≤ q ∧ q ≤ 69 → H q = hb_u2 D 64 e 0 q := fun q hq => (k2.1 q (by omega) (by omega) (by omega) (by omega) (by omega)).trans (q1 q hq)
      have hD64 : D 64 e = 1 := by
        have h1 := (hd.2.2.2.1 e hen).1.2.1
        have h2 := ((hd.2.2.1 e).mp hme).2
        omega
      have hrwZ : bk_rw D Z := fun q hq => by
        show hb_u2 (hb_u2 H 64 e 1) 47 18 _ q = _
        rw [hb_u2_n (by omega)]
        by_cases h : q = 64
        · subst h
          show hb_uf (H 64) e 1 = D 64
          rw [hrwH 64 (by omega)]
          funext i
          show hb_uf (hb_uf (D 64) e 0) e 1 i = D 64 i
          unfold hb_uf
          by_cases hi : i = e
          · rw [if_pos hi, hi, hD64]
          · rw [if_neg hi, if_neg hi]
        · rw [hb_u2_n h, hrwH q hq, hb_u2_n h]
      have hZr : hb_rg Z := (k3.u2 (by decide)).u2 (by rw [hH18, List.length_append]; constructor <;> omega)
      have z17 : Z 47 17 = n := by show hb_u2 _ 47 18 _ 47 17 = _; rw [hb_u2_i (by decide), hb_u2_n (by decide)]; exact hH17
      have z18 : Z 47 18 = (x1 ++ e :: x2).length := by show hb_u2 _ 47 18 _ 47 18 = _; rw [hb_u2_s, hH18, hll, hl2]; omega
      have z4 : Z 47 4 = Z 6 4 := by
        show hb_u2 (hb_u2 H 64 e 1) 47 18 _ 47 4 = hb_u2 (hb_u2 H 64 e 1) 47 18 _ 6 4
        rw [hb_u2_i (by decide), hb_u2_n (by decide), hb_u2_n (by decide), hb_u2_n (by decide), k2.2 4 (by decide), k2.1 6 (by decide) (by decide) (by decide) (by decide) (by decide)]
        exact q5
      obtain ⟨K, m1, m2, m3, m4, m5⟩ := (bk_ck (l := l) (F := F1) (na := na) hd hrwZ hZr z17 z18 z4).1 hLG
      have hPx : (0 ≤ (e : Int) ∧ (e : Int) < G1 47 17) ∧ G1 64 e ≠ 0 := by rw [hX 47 (by omega), hX 64 (by omega)]; exact hPm
      have hF := c_mStrikeR (l := l) iv (by rw [hX 47 (by omega), h17]; omega) hPx k1 m1 hR
      have rK : ∀ q : Nat, ¬ (47 ≤ q ∧ q ≤ 75) → K q = G1 q := fun q hq => by
        rw [m2.1 q (by omega) (by omega) (by omega) (by omega) (by omega)]
        show hb_u2 (hb_u2 H 64 e 1) 47 18 _ q = _
        rw [hb_u2_n (by omega), hb_u2_n (by omega), k2.1 q (by omega) (by omega) (by omega) (by omega) (by omega), hb_u2_n (by omega), hb_u2_n (by omega), hb_u2_n (by omega)]
      have hag3 : bk_ag D (hb_u1 D 73 (K 73)) n := bk_73
      refine ⟨2, _, _, F1, na, 1, 6, 6, by decide, by omega, by omega, by omega, by omega, by omega, h, hF, hb_u2_s, hb_u1 D 73 (K 73), n, x1 ++ e :: x2, ob, bk_J_of ((hclD.ag hag3 hlt).k (fun q hq => by rw [hb_u2_n (by omega)]; exact rK q (by omega))) (bk_dt_73 hd) (hag3.LG (fun f hf => hlt f (List.mem_reverse.mp hf)) hLG) m5 (m4.kz (fun q hq => hb_u2_n (by omega)) (fun i hi => hb_u2_i hi)), hag3.sh hlt (bk_hs_mi hag3 hlt hmi m5) (fun q hq => by rw [hb_u2_n (by omega), rK q (by omega)]; exact hX q (by omega)) hsh, m3.u2 (by decide), bk_bn_c (fun q hq => ?_) hbn⟩
      rw [hb_u2_n (by omega), rK q (by omega)]
      exact hr q (by omega) (by omega) (by omega) (by omega)
  · have h := c_LstrikeR (c_strikeR (l := l) (F := F) (na := na) hl iv hm3 hP hG)
    have hF := c_mStrikeN (l := l) (F := F) (na := na) iv (by rw [h17]; omega) (fun h => hP (hiff.mpr h)) hG
    exact ⟨1, G, _, F, na, 1, 6, 6, by decide, by omega, by omega, by omega, by omega, by omega, h, hF, hb_u2_s, en_I1 hJ hsh hG hbn (by decide)⟩
/-! all together -/
theorem hb_steps {l : Launch} (hl : l.stackTraces = false) : hb_Steps l bk_I := fun g hg => ⟨st_place (hg 1) (hg 2) (hg 3), st_thing (hg 1) (hg 2) (hg 3) (hg 4) (hg 5), st_task (hg 1) (hg 2) (hg 3) (hg 4) (hg 5), st_order (hg 1) (hg 2) (hg 3) (hg 4) (hg 5), st_life (hg 1) (hg 2) (hg 3), st_flight hl (hg 1) (hg 2) (hg 3) (hg 4), st_put hl (hg 1) (hg 2) (hg 3) (hg 4), st_take hl (hg 1) (hg 2), st_done hl (hg 1) (hg 2) (hg 3), st_concede hl (hg 1) (hg 2) (hg 3) (hg 4) (hg 5), st_rebuild hl (hg 1) (hg 2) (hg 3), st_strike hl (hg 1), st_count (hg 1), st_where (hg 1) (hg 2) (hg 3), st_at (hg 1) (hg 2) (hg 3), st_counter (hg 1) (hg 2) (hg 3), st_due (hg 1) (hg 2) (hg 3) (hg 4), st_asked (hg 1) (hg 2) (hg 3), st_open (hg 1) (hg 2) (hg 3), st_grounded (hg 1) (hg 2), st_forecast (hg 1) (hg 2) (hg 3) (hg 4) (hg 5)⟩
theorem bk_sz_m {f : Int → Int} : ∀ {n : Nat}, (∀ t : Nat, t < n → f t = -1) → bk_sz f n = 0
  | 0, _ => rfl
  | n + 1, h => by
    unfold bk_sz
    rw [bk_sz_m (n := n) (fun t ht => h t (by omega)), if_pos (h n (by omega))]
    rfl
theorem hb_I0 : bk_I hb_G0 hb_F0 0 := by
  have fl : ∀ (g : Int → Int) (n v i : Int), 0 ≤ i ∧ i < n → hb_fl g n v i = v := fun g n v i h => if_pos h
  have z48 : hb_G0 48 = hb_fl (fun _ => 0) 48 (-1) := rfl
  have z51 : hb_G0 51 = hb_fl (fun _ => 0) 40 (-1) := rfl
  have z55 : hb_G0 55 = hb_fl (fun _ => 0) 16 (-1) := rfl
  have z58 : hb_G0 58 = hb_fl (fun _ => 0) 8 (-1) := rfl
  have hsb : bk_sb hb_G0 := by
    refine ⟨fun i hi => ?_, fun k hk => ⟨(by show (0 : Int) ≤ 0 ∧ (0 : Int) ≤ 1000000; decide), (by show (0 : Int) ≤ 0 ∧ (0 : Int) ≤ 1000000; decide)⟩, fun t ht => ⟨?_, (by show (0 : Int) ≤ 0 ∧ (0 : Int) ≤ 1000000; decide), (by show (0 : Int) ≤ 0 ∧ (0 : Int) ≤ 1000000; decide), (by show (0 : Int) ≤ 0 ∧ (0 : Int) ≤ 30000; decide)⟩, fun k hk => ⟨?_, fun u hu => (by show (0 : Int) ≤ 0 ∧ (0 : Int) ≤ 100000; decide), (by show (0 : Int) ≤ 0 ∧ (0 : Int) ≤ 500; decide)⟩, fun o ho => ⟨?_, fun hn => absurd (by rw [z58, fl _ _ _ _ ho]) hn⟩⟩
    · rw [z48, fl _ _ _ _ hi]; decide
    · rw [z51, fl _ _ _ _ ht]; decide
    · rw [z55, fl _ _ _ _ hk]; decide
    · rw [z58, fl _ _ _ _ ho]; decide
  have hsl : bk_sl hb_G0 hb_G0 := ⟨fun i _ => rfl, fun t _ => ⟨rfl, rfl, rfl, rfl⟩, fun k _ => ⟨rfl, rfl, rfl, rfl, rfl⟩, fun o _ => ⟨rfl, rfl, rfl, rfl, rfl⟩, fun k _ => ⟨rfl, rfl⟩⟩
  have z7 : hb_G0 7 = hb_fl (fun _ => 0) 40 (-1) := rfl
  have hsz : hb_G0 6 4 = bk_sz (hb_G0 7) 40 := (bk_sz_m (f := hb_G0 7) (n := 40) (fun t ht => by rw [z7, fl _ _ _ _ (by omega)])).symm
  have hfl : ∀ (n : Int) (i : Int), hb_in (hb_fl (fun _ => 0) n (-1) i) := fun n i => by
    unfold hb_fl
    split
    · decide
    · show hb_in 0
      decide
  have hrg : hb_rg hb_G0 := fun p i => by
    unfold hb_G0
    split
    all_goals first | exact hfl _ _ | (show hb_in 0; decide) | skip
    show hb_in (if i = 9 then -1 else 0)
    split <;> decide
  have hbn : hb_bn hb_G0 := by
    refine ⟨fun i hi u hu => ?_, fun t ht => ⟨(by show (-1000000000 : Int) ≤ 0 ∧ (0 : Int) ≤ 1000000000; decide), (by show (-1000000000 : Int) ≤ 0 ∧ (0 : Int) ≤ 1000000000; decide), (by show (0 : Int) ≤ 0 ∧ (0 : Int) ≤ 30000; decide)⟩⟩
    rcases hu with rfl | rfl | rfl
    · show (-1000000000 : Int) ≤ 0 ∧ (0 : Int) ≤ 1000000000; decide
    · show (-1000000000 : Int) ≤ 0 ∧ (0 : Int) ≤ 1000000000; decide
    · show (-1000000000 : Int) ≤ 0 ∧ (0 : Int) ≤ 1000000000; decide
  refine ⟨hb_G0, 0, [], fun _ => 0, bk_J_of ⟨hsl, rfl, rfl, fun e he => (nomatch he), fun j hj => absurd hj (Nat.not_lt_zero _), fun e he => (nomatch he), fun e he => absurd he (Nat.not_lt_zero _), fun e he => (nomatch he), hsz⟩ ⟨hsb, List.Pairwise.nil, fun e => ⟨fun he => (nomatch he), fun he => absurd he.1 (Nat.not_lt_zero _)⟩, fun e he => absurd he (Nat.not_lt_zero _), Nat.zero_le _, List.Pairwise.nil⟩ trivial (fun a e b hab => (by cases a <;> cases hab)) ⟨fun _ _ => rfl, rfl, rfl, rfl, ⟨rfl, fun j e he => (by simp at he)⟩, rfl⟩, Or.inl rfl, hrg, hbn⟩
theorem hb_flag {l : Launch} (h : l.flags = flags0) : l.stackTraces = false := by
  unfold Launch.stackTraces
  rw [h]
  decide

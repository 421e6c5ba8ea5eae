theorem en_least {P : Nat → Prop} : ∀ {n : Nat}, P n → ∃ e, P e ∧ e ≤ n ∧ ∀ f, f < e → ¬ P f := by
  intro n
  induction n using Nat.strongRecOn with
  | ind n ih =>
    intro h
    by_cases h9 : ∃ m, m < n ∧ P m
    · obtain ⟨m, h1, h2⟩ := h9
      obtain ⟨e, e1, e2, e3⟩ := ih m h1 h2
      exact ⟨e, e1, by omega, e3⟩
    · exact ⟨n, h, Nat.le_refl _, fun f hf hp => h9 ⟨f, hf, hp⟩⟩
/-- a move that cannot be: what the reference leaves -/
theorem en_undo {l : Launch} {D G X H : hb_G} {F1 : hb_F} {na n : Nat} {xs : List Nat} {ob : Nat → Nat} {w t p a b : Int} (hd : bk_dt D n xs) (hLG : bk_LG D xs.reverse) (hmi : bk_mi D xs) (hrf : bk_rf D G n xs) (hn : n < 200) (hcl : bk_cl D X F1 (na + 1) n xs ob) (hrX : ∀ p : Nat, 32 ≤ p ∧ p ≤ 75 → X p = G p) (hX : hb_rg X) (h6 : X 6 = G 6) (h11 : X 11 = G 11) (hsh : bk_sh D G xs) (hbn : hb_bn G) (hkk : bk_kk (hb_je (hb_u2 X 47 0 0) w t p a b 0) H) (hR : hb_rg H) : ∃ (r9 : Int) (K : hb_G), hb_M l yX9_check cX9_check 3 (some .boolean) 5 0 0 [hb_r 47] (hb_w (hb_u2 (hb_u2 (hb_u2 H 47 17 (H 47 17 - 1)) 47 18 (H 47 18 - 1)) 64 (X 47 17 + 1 - 1) 0) F1 (na + 1)) (77 + (na + 1)) (.inl (some (hb_i r9))) (hb_w K F1 (na + 1)) (77 + (na + 1)) ∧ bk_I (hb_u2 K 47 0 2) F1 (na + 1) := by
  obtain ⟨c1, c2, c3, c4, c5, c6⟩ := hrf
  have x47 := hrX 47 (by omega)
  have hX17 : X 47 17 = n := by rw [x47]; exact c3
  have hlt : ∀ e ∈ xs, e < n := fun e he => ((hd.2.2.1 e).mp he).1
  have hlen : xs.length ≤ 200 := Nat.le_trans (bk_nd_len (bk_nd hd.2.1) hlt) (by omega)
  obtain ⟨j1, j2, j3, j4, j5, j6⟩ := bk_je (w := w) (t := t) (p := p) (a := a) (b := b) (c := 0) (X := X) (D := D) (n := n) (fun q hq => (hrX q (by omega)).trans (c1 q hq)) hX17
  have hH17 : H 47 17 = n + 1 := (hkk.2 17 (by decide)).trans j2
  have hH18 : H 47 18 = xs.length + 1 := by rw [hkk.2 18 (by decide), j3, x47, c4]
  rw [show X 47 17 + 1 - 1 = (n : Int) by rw [hX17]; omega]
  let Z : hb_G := hb_u2 (hb_u2 (hb_u2 H 47 17 (H 47 17 - 1)) 47 18 (H 47 18 - 1)) 64 n 0
  let E : hb_G := hb_u2 (bk_E D n w t p a b 0) 64 n 0
  have hag : bk_ag D E n := ⟨fun q hq => by show hb_u2 (bk_E D n w t p a b 0) 64 n 0 q = _; rw [hb_u2_n (by omega)]; exact bk_E_ag.1 q hq, fun q hq e he => by
    show hb_u2 (bk_E D n w t p a b 0) 64 n 0 q e = _
    by_cases h : q = 64
    · subst h; rw [hb_u2_i (by omega)]; exact bk_E_ag.2 64 (by omega) e he
    · rw [hb_u2_n h]; exact bk_E_ag.2 q hq e he⟩
  have rZ : ∀ q : Nat, q ≠ 47 → q ≠ 64 → Z q = H q := fun q h1 h2 => by show hb_u2 _ 64 n 0 q = _; rw [hb_u2_n h2, hb_u2_n h1, hb_u2_n h1]
  have hrwH : ∀ q : Nat, 48 ≤ q ∧ q ≤ 69 → H q = bk_E D n w t p a b 0 q := fun q hq => (hkk.1 q (by omega) (by omega) (by omega) (by omega) (by omega)).trans (j1 q hq)
  have hrwZ : bk_rw E Z := fun q hq => by
    by_cases h : q = 64
    · subst h
      show hb_uf (H 64) n 0 = hb_uf (bk_E D n w t p a b 0 64) n 0
      rw [hrwH 64 (by omega)]
    · rw [rZ q (by omega) h, hrwH q hq]; show _ = hb_u2 _ 64 n 0 q; rw [hb_u2_n h]
  have z47 : ∀ i : Int, i ≠ 17 → i ≠ 18 → Z 47 i = H 47 i := fun i h1 h2 => by show hb_u2 _ 64 n 0 47 i = _; rw [hb_u2_n (by decide), hb_u2_i h2, hb_u2_i h1]
  have z17 : Z 47 17 = n := by show hb_u2 _ 64 n 0 47 17 = _; rw [hb_u2_n (by decide), hb_u2_i (by decide), hb_u2_s, hH17]; omega
  have z18 : Z 47 18 = xs.length := by show hb_u2 _ 64 n 0 47 18 = _; rw [hb_u2_n (by decide), hb_u2_s, hH18]; omega
  have hZr : hb_rg Z := ((hR.u2 (by rw [hH17]; constructor <;> omega)).u2 (by rw [hH18]; constructor <;> omega)).u2 (by decide)
  have z6 : Z 6 = G 6 := by rw [rZ 6 (by decide) (by decide), hkk.1 6 (by decide) (by decide) (by decide) (by decide) (by decide), j6 6 (by omega) (by decide)]; exact h6
  have hdE := hag.dt hd
  obtain ⟨K, k1, k2, k3, k4, k5⟩ := (bk_ck (l := l) (F := F1) (na := na + 1) hdE hrwZ hZr z17 z18 (by rw [z47 4 (by decide) (by decide), hkk.2 4 (by decide), j4 4 (by decide) (by decide) (by decide), x47, z6]; exact c6)).1 (hag.LG (fun e he => hlt e (List.mem_reverse.mp he)) hLG)
  have hag3 : bk_ag D (hb_u1 E 73 (K 73)) n := ⟨fun q hq => by rw [hb_u1_n (by omega)]; exact hag.1 q hq, fun q hq e he => by rw [hb_u1_n (by omega)]; exact hag.2 q hq e he⟩
  have rK : ∀ q : Nat, ¬ (47 ≤ q ∧ q ≤ 75) → K q = X q := fun q hq => by
    rw [k2.1 q (by omega) (by omega) (by omega) (by omega) (by omega), rZ q (by omega) (by omega), hkk.1 q (by omega) (by omega) (by omega) (by omega) (by omega)]
    exact j6 q (by omega) (by omega)
  refine ⟨1, K, k1, hb_u1 E 73 (K 73), n, xs, ob, bk_J_of ((hcl.ag hag3 hlt).k (fun q hq => by rw [hb_u2_n (by omega)]; exact rK q (by omega))) (hag3.dt hd) (hag3.LG (fun e he => hlt e (List.mem_reverse.mp he)) hLG) k5 (k4.kz (fun q hq => hb_u2_n (by omega)) (fun i hi => hb_u2_i hi)), hag3.sh hlt (bk_hs_mi hag3 hlt hmi k5) (fun q hq => by rw [hb_u2_n (by omega), rK q (by omega)]; exact hrX q (by omega)) hsh, k3.u2 (by decide), bk_bn_c (fun q hq => ?_) hbn⟩
  rw [hb_u2_n (by omega), rK q (by omega)]
  by_cases h : q = 11
  · rw [h]; exact h11
  · exact hrX q (by omega)
theorem st_take {l : Launch} (hl : l.stackTraces = false) {t p : Int} (it : hb_in t) (ip : hb_in p) : hb_stE l bk_I yL_take cL_take 5 [(0, 10, 13, 13), (0, 10, 17, 15)] yX9_take cX9_take 3 [hb_i t, hb_i p] := by
  intro G F na hI
  obtain ⟨D, n, xs, ob, hJ, hsh, hG, hbn⟩ := hI
  obtain ⟨hcl, hd, hLG, hmi, hrf⟩ := bk_of_J hJ
  have hsl := hcl.1
  have hrw := hrf.1
  have h17 := hrf.2.2.1
  have hn200 := hd.2.2.2.2.1
  have hxl : ∀ e ∈ xs, e < n := fun e he => ((hd.2.2.1 e).mp he).1
  have hM9 : ∀ X : hb_G, X 51 = D 51 → (((0 ≤ t ∧ t < 40 ∧ G 7 t ≠ -1) ∧ (0 ≤ p ∧ p ≤ 3000099)) ↔ ((0 ≤ t ∧ t < 40 ∧ X 51 t ≠ -1) ∧ (0 ≤ p ∧ p ≤ 3000099))) := by
    intro X w51
    rw [en_th hsl, w51]
  have w51 := hrw 51 (by omega)
  by_cases hP : (0 ≤ t ∧ t < 40 ∧ G 7 t ≠ -1) ∧ (0 ≤ p ∧ p ≤ 3000099)
  · have hrow : ∀ i, hb_in (hb_er 1 t p 0 0 0 0 0 i) := en_rowin (by decide) it ip (by decide) (by decide) (by decide) (by decide) (by decide)
    by_cases hn : n = 200
    · obtain ⟨f1, f2, f3⟩ := en_full hcl hG hrow
      have hA := c_addFull (l := l) (F := F) (G := hb_u1 G (77 + na) (hb_er 1 t p 0 0 0 0 0)) (Nat.lt_succ_self na) (by rw [f1.2.1, hn]; decide) f2
      have h := c_LtakeX (c_takeX it ip hP (c_enterN hl (Nat.lt_succ_self na) hA) hG)
      have hT := c_mTry2 (l := l) (F := F) (na := na + 1) (G := hb_u1 G (77 + na) (hb_er 1 t p 0 0 0 0 0)) (k := 2) (t := t) (at9 := p) (a := 0) (b := 0) ip (by rw [f3 47 (by omega), h17, hn]; rfl) f2
      have hF := c_mTakeY it ip ((hM9 (hb_u1 G (77 + na) (hb_er 1 t p 0 0 0 0 0)) ((f3 51 (by omega)).trans w51)).mp hP) hT f2
      exact ⟨2, 0, _, _, F, na + 1, 2, 15, 7, by decide, by decide, by omega, by omega, by omega, by omega, by omega, h, hF, hb_u2_s, fun h => absurd h (by decide), en_keep f1 (fun q _ _ _ _ hq => f3 q hq) f2 (f3 6 (by omega)) (f3 11 (by omega)) hd hLG hmi hrf hsh hbn (by decide)⟩
    · have hlt : n < 200 := by omega
      have hv : bk_vd (bk_E D n 2 t p 0 0 0) n := by
        have hD := (hM9 D rfl).mp hP
        exact en_vd (by decide) ⟨⟨hD.1.1, hD.1.2.1⟩, hD.1.2.2⟩ hD.2 (fun h => absurd h (by decide)) (fun h => absurd h (by decide)) (fun h => absurd h (by decide)) (fun h => absurd h (by decide)) (fun h => absurd h (by decide))
      obtain ⟨e1, e2, e3, e4, e5, e6, e7⟩ := bk_E_at (D := D) (n := n) (w := 2) (t := t) (p := p) (a := 0) (b := 0) (c := 0)
      obtain ⟨x1, x2, hx, h1, h2, hacc, hrej⟩ := bk_add (l := l) (row := hb_er 1 t p 0 0 0 0 0) hcl hd hlt (bk_E_ag (w := 2) (t := t) (p := p) (a := 0) (b := 0) (c := 0)) hv hG hrow (en_obj rfl (fun h => absurd h (by decide)) (fun h => absurd h (by decide)) (fun h => absurd h (by decide)) (fun h => absurd h (by decide))) (by rw [e4]; rfl) (by rw [e1]; rfl)
      have hmv : bk_E D n 2 t p 0 0 0 63 n = 1 ∨ bk_E D n 2 t p 0 0 0 63 n = 2 := by rw [e1]; decide
      have iv : hb_in (n : Int) := by constructor <;> omega
      have hcf : ∀ f : Nat, f < n → (bk_E D n 2 t p 0 0 0 66 f = D 66 f ∧ bk_E D n 2 t p 0 0 0 63 f = D 63 f) := fun f hf => ⟨bk_E_ag.2 66 (by omega) f hf, bk_E_ag.2 63 (by omega) f hf⟩
      by_cases hcl9 : ∃ f, f ∈ xs ∧ bk_E D n 2 t p 0 0 0 66 f = bk_E D n 2 t p 0 0 0 66 n ∧ (bk_E D n 2 t p 0 0 0 63 f = 1 ∨ bk_E D n 2 t p 0 0 0 63 f = 2)
      · obtain ⟨G1, F1, hA, hclD, hr, hR⟩ := hrej ⟨hmv, Or.inl hcl9⟩
        have h := c_LtakeX (c_takeX it ip hP (c_enterN hl (Nat.lt_succ_self na) hA) hG)
        have r9 : ∀ q : Nat, 32 ≤ q ∧ q ≤ 76 → G1 q = G q := fun q hq => hr q (by omega) (by omega) (by omega) (by omega) (by omega)
        obtain ⟨f, hf1, hf2, hf3⟩ := hcl9
        have hfn := hxl f hf1
        rw [(hcf f hfn).1, (hcf f hfn).2, e4] at *
        have x64 : G1 64 = D 64 := (r9 64 (by omega)).trans (hrw 64 (by omega))
        have x63 : G1 63 = D 63 := (r9 63 (by omega)).trans (hrw 63 (by omega))
        have x66 : G1 66 = D 66 := (r9 66 (by omega)).trans (hrw 66 (by omega))
        obtain ⟨e0, g1, g2, g3⟩ := en_least (P := fun e => e < n ∧ hb_jv (hb_u2 G1 47 0 0) e ∧ G1 66 (e : Int) = p) (n := f) ⟨hfn, ⟨by show G1 64 f ≠ 0; rw [x64]; exact ((hd.2.2.1 f).mp hf1).2, by show G1 63 f = 1 ∨ G1 63 f = 2; rw [x63]; exact hf3⟩, by rw [x66]; exact hf2⟩
        have hT := c_mTryP (l := l) (F := F1) (na := na + 1) (G := G1) (k := 2) (t := t) (at9 := p) (a := 0) (b := 0) ip (n := n) (by rw [r9 47 (by omega)]; exact h17) hlt (e0 := e0) g1.1 g1.2.1 g1.2.2 (fun e he h9 => g3 e he ⟨by omega, h9⟩) hR
        have hF := c_mTakeY it ip ((hM9 G1 ((r9 51 (by omega)).trans w51)).mp hP) hT hR
        exact ⟨2, 0, _, _, F1, na + 1, 2, 15, 7, by decide, by decide, by omega, by omega, by omega, by omega, by omega, h, hF, hb_u2_s, fun h => absurd h (by decide), en_keep hclD (fun q a1 a2 a3 a4 a5 => hr q (by omega) a2 a3 a4 (by omega)) hR (hr 6 (by decide) (by decide) (by decide) (by decide) (by omega)) (hr 11 (by decide) (by decide) (by decide) (by decide) (by omega)) hd hLG hmi hrf hsh hbn (by decide)⟩
      · have hnoc : ∀ (X : hb_G), X 64 = D 64 → X 63 = D 63 → X 66 = D 66 → ∀ e : Nat, e < n → ¬ (hb_jv (hb_u2 X 47 0 0) e ∧ X 66 (e : Int) = p) := fun X y64 y63 y66 e he ⟨h8, h9⟩ => by
          have h8 : X 64 e ≠ 0 ∧ (X 63 e = 1 ∨ X 63 e = 2) := h8
          rw [y64, y63] at h8
          rw [y66] at h9
          exact hcl9 ⟨e, (hd.2.2.1 e).mpr ⟨he, h8.1⟩, by rw [(hcf e he).1, e4]; exact h9, by rw [(hcf e he).2]; exact h8.2⟩
        by_cases hL : bk_LG (bk_E D n 2 t p 0 0 0) (x1 ++ n :: x2).reverse
        · obtain ⟨G1, F1, hA, hclE, hr, hR⟩ := hacc (Or.inr ⟨hmv, hcl9, hL⟩)
          have h := c_LtakeY (c_takeY it ip hP (c_enterY (Nat.lt_succ_self na) iv (by omega) hA) hG) iv
          obtain ⟨q1, q2, q3, q4, q5, q6, q7⟩ := bk_acc (v := n) hclE hr hR hbn iv
          have x17 : hb_u2 (hb_u2 G1 32 9 (-1)) 76 0 n 47 17 = n := by rw [q2 47 (by omega)]; exact h17
          have hb9 : hb_u2 (hb_u2 G1 32 9 (-1)) 76 0 n 47 17 + 1 - 1 = n := by rw [x17]; omega
          subst hx
          obtain ⟨H, k1, k2, k3, k4⟩ := (en_check (l := l) (F1 := F1) (na := na) (ob' := fun e => if e = n then na else ob e) hd hrf hlt (by decide) hv h1 h2 (fun _ => hcl9) q2 q3 q7 (by decide) it ip (by decide) (by decide) (by decide)).1 hL
          have hT := c_mTryY (l := l) (F := F1) (na := na + 1) (k := 2) (t := t) (at9 := p) (a := 0) (b := 0) ip (n := n) x17 hlt (hnoc _ ((q2 64 (by omega)).trans (hrw 64 (by omega))) ((q2 63 (by omega)).trans (hrw 63 (by omega))) ((q2 66 (by omega)).trans (hrw 66 (by omega)))) k1 q3
          have hF := c_mTakeY it ip ((hM9 _ ((q2 51 (by omega)).trans w51)).mp hP) hT q3
          rw [hb9] at hF
          exact ⟨0, n, _, H, F1, na + 1, 1, 9, 7, by decide, iv, by omega, by omega, by omega, by omega, by omega, h, hF, k2, fun _ => by rw [k3]; exact q6, k4 q1 q4 q5⟩
        · obtain ⟨G1, F1, hA, hclD, hr, hR⟩ := hrej ⟨hmv, Or.inr hL⟩
          have h := c_LtakeX (c_takeX it ip hP (c_enterN hl (Nat.lt_succ_self na) hA) hG)
          have r9 : ∀ q : Nat, 32 ≤ q ∧ q ≤ 76 → G1 q = G q := fun q hq => hr q (by omega) (by omega) (by omega) (by omega) (by omega)
          have r6 : G1 6 = G 6 := hr 6 (by decide) (by decide) (by decide) (by decide) (by omega)
          subst hx
          obtain ⟨H, k1, k2, k3⟩ := (en_check (l := l) (F1 := F1) (na := na) (ob' := ob) hd hrf hlt (by decide) hv h1 h2 (fun _ => hcl9) (fun q hq => r9 q (by omega)) hR r6 (by decide) it ip (by decide) (by decide) (by decide)).2 hL
          obtain ⟨r0, K, k4, k5⟩ := en_undo (l := l) hd hLG hmi hrf hlt hclD (fun q hq => r9 q (by omega)) hR r6 (hr 11 (by decide) (by decide) (by decide) (by decide) (by omega)) hsh hbn k2 k3
          have hT := c_mTryN (l := l) (F := F1) (na := na + 1) (k := 2) (t := t) (at9 := p) (a := 0) (b := 0) ip (n := n) (by rw [r9 47 (by omega)]; exact h17) hlt (hnoc _ ((r9 64 (by omega)).trans (hrw 64 (by omega))) ((r9 63 (by omega)).trans (hrw 63 (by omega))) ((r9 66 (by omega)).trans (hrw 66 (by omega)))) k1 k4 hR
          have hF := c_mTakeY it ip ((hM9 _ ((r9 51 (by omega)).trans w51)).mp hP) hT hR
          exact ⟨2, 0, _, _, F1, na + 1, 2, 15, 7, by decide, by decide, by omega, by omega, by omega, by omega, by omega, h, hF, hb_u2_s, fun h => absurd h (by decide), k5⟩
  · have h := c_LtakeR (c_takeR (l := l) (F := F) (na := na) hl it ip hP hG)
    have hF := c_mTakeN it ip (fun h => hP ((hM9 G w51).mpr h)) (c_mTry0 (l := l) (F := F) (na := na) ip hG) hG
    exact ⟨1, 0, G, _, F, na, 1, 6, 7, by decide, by decide, by omega, by omega, by omega, by omega, by omega, h, hF, hb_u2_s, fun h => absurd h (by decide), en_I1 hJ hsh hG hbn (by decide)⟩
theorem st_put {l : Launch} (hl : l.stackTraces = false) {t u q p : Int} (it : hb_in t) (iu : hb_in u) (iq : hb_in q) (ip : hb_in p) : hb_stE l bk_I yL_put cL_put 7 [(0, 14, 17, 13), (0, 14, 21, 15)] yX9_put cX9_put 5 [hb_i t, hb_i u, hb_i q, hb_i p] := by
  intro G F na hI
  obtain ⟨D, n, xs, ob, hJ, hsh, hG, hbn⟩ := hI
  obtain ⟨hcl, hd, hLG, hmi, hrf⟩ := bk_of_J hJ
  have hsl := hcl.1
  have hrw := hrf.1
  have h17 := hrf.2.2.1
  have hn200 := hd.2.2.2.2.1
  have hxl : ∀ e ∈ xs, e < n := fun e he => ((hd.2.2.1 e).mp he).1
  have hM9 : ∀ X : hb_G, X 51 = D 51 → (((0 ≤ t ∧ t < 40 ∧ G 7 t ≠ -1) ∧ (0 ≤ u ∧ u < 40 ∧ G 7 u ≠ -1) ∧ (0 ≤ q ∧ q < 4) ∧ (0 ≤ p ∧ p ≤ 3000099)) ↔ ((0 ≤ t ∧ t < 40 ∧ X 51 t ≠ -1) ∧ (0 ≤ u ∧ u < 40 ∧ X 51 u ≠ -1) ∧ (0 ≤ q ∧ q ≤ 3) ∧ (0 ≤ p ∧ p ≤ 3000099))) := by
    intro X w51
    rw [en_th hsl, en_th hsl, w51]
    constructor
    · rintro ⟨a1, a2, a3, a4⟩; exact ⟨a1, a2, by omega, a4⟩
    · rintro ⟨a1, a2, a3, a4⟩; exact ⟨a1, a2, by omega, a4⟩
  have w51 := hrw 51 (by omega)
  by_cases hP : (0 ≤ t ∧ t < 40 ∧ G 7 t ≠ -1) ∧ (0 ≤ u ∧ u < 40 ∧ G 7 u ≠ -1) ∧ (0 ≤ q ∧ q < 4) ∧ (0 ≤ p ∧ p ≤ 3000099)
  · have hrow : ∀ i, hb_in (hb_er 0 t p u q 0 0 0 i) := en_rowin (by decide) it ip iu iq (by decide) (by decide) (by decide)
    by_cases hn : n = 200
    · obtain ⟨f1, f2, f3⟩ := en_full hcl hG hrow
      have hA := c_addFull (l := l) (F := F) (G := hb_u1 G (77 + na) (hb_er 0 t p u q 0 0 0)) (Nat.lt_succ_self na) (by rw [f1.2.1, hn]; decide) f2
      have h := c_LputX (c_putX it iu iq ip hP (c_enterN hl (Nat.lt_succ_self na) hA) hG)
      have hT := c_mTry2 (l := l) (F := F) (na := na + 1) (G := hb_u1 G (77 + na) (hb_er 0 t p u q 0 0 0)) (k := 1) (t := t) (at9 := p) (a := u) (b := q) ip (by rw [f3 47 (by omega), h17, hn]; rfl) f2
      have hF := c_mPutY it iu iq ip ((hM9 (hb_u1 G (77 + na) (hb_er 0 t p u q 0 0 0)) ((f3 51 (by omega)).trans w51)).mp hP) hT f2
      exact ⟨2, 0, _, _, F, na + 1, 2, 15, 7, by decide, by decide, by omega, by omega, by omega, by omega, by omega, h, hF, hb_u2_s, fun h => absurd h (by decide), en_keep f1 (fun q _ _ _ _ hq => f3 q hq) f2 (f3 6 (by omega)) (f3 11 (by omega)) hd hLG hmi hrf hsh hbn (by decide)⟩
    · have hlt : n < 200 := by omega
      have hv : bk_vd (bk_E D n 1 t p u q 0) n := by
        have hD := (hM9 D rfl).mp hP
        exact en_vd (by decide) ⟨⟨hD.1.1, hD.1.2.1⟩, hD.1.2.2⟩ hD.2.2.2 (fun h => absurd h (by decide)) (fun _ => ⟨⟨⟨hD.2.1.1, hD.2.1.2.1⟩, hD.2.1.2.2⟩, by omega⟩) (fun h => absurd h (by decide)) (fun h => absurd h (by decide)) (fun h => absurd h (by decide))
      obtain ⟨e1, e2, e3, e4, e5, e6, e7⟩ := bk_E_at (D := D) (n := n) (w := 1) (t := t) (p := p) (a := u) (b := q) (c := 0)
      obtain ⟨x1, x2, hx, h1, h2, hacc, hrej⟩ := bk_add (l := l) (row := hb_er 0 t p u q 0 0 0) hcl hd hlt (bk_E_ag (w := 1) (t := t) (p := p) (a := u) (b := q) (c := 0)) hv hG hrow (en_obj rfl (fun _ => ⟨rfl, rfl⟩) (fun h => absurd h (by decide)) (fun h => absurd h (by decide)) (fun h => absurd h (by decide))) (by rw [e4]; rfl) (by rw [e1]; rfl)
      have hmv : bk_E D n 1 t p u q 0 63 n = 1 ∨ bk_E D n 1 t p u q 0 63 n = 2 := by rw [e1]; decide
      have iv : hb_in (n : Int) := by constructor <;> omega
      have hcf : ∀ f : Nat, f < n → (bk_E D n 1 t p u q 0 66 f = D 66 f ∧ bk_E D n 1 t p u q 0 63 f = D 63 f) := fun f hf => ⟨bk_E_ag.2 66 (by omega) f hf, bk_E_ag.2 63 (by omega) f hf⟩
      by_cases hcl9 : ∃ f, f ∈ xs ∧ bk_E D n 1 t p u q 0 66 f = bk_E D n 1 t p u q 0 66 n ∧ (bk_E D n 1 t p u q 0 63 f = 1 ∨ bk_E D n 1 t p u q 0 63 f = 2)
      · obtain ⟨G1, F1, hA, hclD, hr, hR⟩ := hrej ⟨hmv, Or.inl hcl9⟩
        have h := c_LputX (c_putX it iu iq ip hP (c_enterN hl (Nat.lt_succ_self na) hA) hG)
        have r9 : ∀ q : Nat, 32 ≤ q ∧ q ≤ 76 → G1 q = G q := fun q hq => hr q (by omega) (by omega) (by omega) (by omega) (by omega)
        obtain ⟨f, hf1, hf2, hf3⟩ := hcl9
        have hfn := hxl f hf1
        rw [(hcf f hfn).1, (hcf f hfn).2, e4] at *
        have x64 : G1 64 = D 64 := (r9 64 (by omega)).trans (hrw 64 (by omega))
        have x63 : G1 63 = D 63 := (r9 63 (by omega)).trans (hrw 63 (by omega))
        have x66 : G1 66 = D 66 := (r9 66 (by omega)).trans (hrw 66 (by omega))
        obtain ⟨e0, g1, g2, g3⟩ := en_least (P := fun e => e < n ∧ hb_jv (hb_u2 G1 47 0 0) e ∧ G1 66 (e : Int) = p) (n := f) ⟨hfn, ⟨by show G1 64 f ≠ 0; rw [x64]; exact ((hd.2.2.1 f).mp hf1).2, by show G1 63 f = 1 ∨ G1 63 f = 2; rw [x63]; exact hf3⟩, by rw [x66]; exact hf2⟩
        have hT := c_mTryP (l := l) (F := F1) (na := na + 1) (G := G1) (k := 1) (t := t) (at9 := p) (a := u) (b := q) ip (n := n) (by rw [r9 47 (by omega)]; exact h17) hlt (e0 := e0) g1.1 g1.2.1 g1.2.2 (fun e he h9 => g3 e he ⟨by omega, h9⟩) hR
        have hF := c_mPutY it iu iq ip ((hM9 G1 ((r9 51 (by omega)).trans w51)).mp hP) hT hR
        exact ⟨2, 0, _, _, F1, na + 1, 2, 15, 7, by decide, by decide, by omega, by omega, by omega, by omega, by omega, h, hF, hb_u2_s, fun h => absurd h (by decide), en_keep hclD (fun q a1 a2 a3 a4 a5 => hr q (by omega) a2 a3 a4 (by omega)) hR (hr 6 (by decide) (by decide) (by decide) (by decide) (by omega)) (hr 11 (by decide) (by decide) (by decide) (by decide) (by omega)) hd hLG hmi hrf hsh hbn (by decide)⟩
      · have hnoc : ∀ (X : hb_G), X 64 = D 64 → X 63 = D 63 → X 66 = D 66 → ∀ e : Nat, e < n → ¬ (hb_jv (hb_u2 X 47 0 0) e ∧ X 66 (e : Int) = p) := fun X y64 y63 y66 e he ⟨h8, h9⟩ => by
          have h8 : X 64 e ≠ 0 ∧ (X 63 e = 1 ∨ X 63 e = 2) := h8
          rw [y64, y63] at h8
          rw [y66] at h9
          exact hcl9 ⟨e, (hd.2.2.1 e).mpr ⟨he, h8.1⟩, by rw [(hcf e he).1, e4]; exact h9, by rw [(hcf e he).2]; exact h8.2⟩
        by_cases hL : bk_LG (bk_E D n 1 t p u q 0) (x1 ++ n :: x2).reverse
        · obtain ⟨G1, F1, hA, hclE, hr, hR⟩ := hacc (Or.inr ⟨hmv, hcl9, hL⟩)
          have h := c_LputY (c_putY it iu iq ip hP (c_enterY (Nat.lt_succ_self na) iv (by omega) hA) hG) iv
          obtain ⟨q1, q2, q3, q4, q5, q6, q7⟩ := bk_acc (v := n) hclE hr hR hbn iv
          have x17 : hb_u2 (hb_u2 G1 32 9 (-1)) 76 0 n 47 17 = n := by rw [q2 47 (by omega)]; exact h17
          have hb9 : hb_u2 (hb_u2 G1 32 9 (-1)) 76 0 n 47 17 + 1 - 1 = n := by rw [x17]; omega
          subst hx
          obtain ⟨H, k1, k2, k3, k4⟩ := (en_check (l := l) (F1 := F1) (na := na) (ob' := fun e => if e = n then na else ob e) hd hrf hlt (by decide) hv h1 h2 (fun _ => hcl9) q2 q3 q7 (by decide) it ip iu iq (by decide)).1 hL
          have hT := c_mTryY (l := l) (F := F1) (na := na + 1) (k := 1) (t := t) (at9 := p) (a := u) (b := q) ip (n := n) x17 hlt (hnoc _ ((q2 64 (by omega)).trans (hrw 64 (by omega))) ((q2 63 (by omega)).trans (hrw 63 (by omega))) ((q2 66 (by omega)).trans (hrw 66 (by omega)))) k1 q3
          have hF := c_mPutY it iu iq ip ((hM9 _ ((q2 51 (by omega)).trans w51)).mp hP) hT q3
          rw [hb9] at hF
          exact ⟨0, n, _, H, F1, na + 1, 1, 9, 7, by decide, iv, by omega, by omega, by omega, by omega, by omega, h, hF, k2, fun _ => by rw [k3]; exact q6, k4 q1 q4 q5⟩
        · obtain ⟨G1, F1, hA, hclD, hr, hR⟩ := hrej ⟨hmv, Or.inr hL⟩
          have h := c_LputX (c_putX it iu iq ip hP (c_enterN hl (Nat.lt_succ_self na) hA) hG)
          have r9 : ∀ q : Nat, 32 ≤ q ∧ q ≤ 76 → G1 q = G q := fun q hq => hr q (by omega) (by omega) (by omega) (by omega) (by omega)
          have r6 : G1 6 = G 6 := hr 6 (by decide) (by decide) (by decide) (by decide) (by omega)
          subst hx
          obtain ⟨H, k1, k2, k3⟩ := (en_check (l := l) (F1 := F1) (na := na) (ob' := ob) hd hrf hlt (by decide) hv h1 h2 (fun _ => hcl9) (fun q hq => r9 q (by omega)) hR r6 (by decide) it ip iu iq (by decide)).2 hL
          obtain ⟨r0, K, k4, k5⟩ := en_undo (l := l) hd hLG hmi hrf hlt hclD (fun q hq => r9 q (by omega)) hR r6 (hr 11 (by decide) (by decide) (by decide) (by decide) (by omega)) hsh hbn k2 k3
          have hT := c_mTryN (l := l) (F := F1) (na := na + 1) (k := 1) (t := t) (at9 := p) (a := u) (b := q) ip (n := n) (by rw [r9 47 (by omega)]; exact h17) hlt (hnoc _ ((r9 64 (by omega)).trans (hrw 64 (by omega))) ((r9 63 (by omega)).trans (hrw 63 (by omega))) ((r9 66 (by omega)).trans (hrw 66 (by omega)))) k1 k4 hR
          have hF := c_mPutY it iu iq ip ((hM9 _ ((r9 51 (by omega)).trans w51)).mp hP) hT hR
          exact ⟨2, 0, _, _, F1, na + 1, 2, 15, 7, by decide, by decide, by omega, by omega, by omega, by omega, by omega, h, hF, hb_u2_s, fun h => absurd h (by decide), k5⟩
  · have h := c_LputR (c_putR (l := l) (F := F) (na := na) hl it iu iq ip hP hG)
    have hF := c_mPutN it iu iq ip (fun h => hP ((hM9 G w51).mpr h)) (c_mTry0 (l := l) (F := F) (na := na) ip hG) hG
    exact ⟨1, 0, G, _, F, na, 1, 6, 7, by decide, by decide, by omega, by omega, by omega, by omega, by omega, h, hF, hb_u2_s, fun h => absurd h (by decide), en_I1 hJ hsh hG hbn (by decide)⟩

/-! what is set: place, thing, task, order, life -/
def bk_ext (D E : hb_G) : Prop := (∀ p : Nat, 63 ≤ p ∧ p ≤ 69 → E p = D p) ∧ E 73 = D 73 ∧ E 48 = D 48 ∧ (∀ t, 0 ≤ t ∧ t < 40 → D 51 t ≠ -1 → E 51 t = D 51 t) ∧ (∀ k, 0 ≤ k ∧ k < 16 → D 55 k ≠ -1 → E 55 k ≠ -1)
theorem bk_ext.vd {D E : hb_G} (h : bk_ext D E) {e : Nat} (hv : bk_vd D e) : bk_vd E e := by
  obtain ⟨h1, h2, h3, h4, h5⟩ := h
  obtain ⟨v1, v2, v3, v4, v5, v6, v7, v8, v9⟩ := hv
  have w63 := h1 63 (by omega); have w64 := h1 64 (by omega); have w65 := h1 65 (by omega); have w66 := h1 66 (by omega); have w67 := h1 67 (by omega); have w68 := h1 68 (by omega); have w69 := h1 69 (by omega)
  unfold bk_vd
  rw [w63, w64, w65, w66, w67, w68, w69]
  have t1 := h4 _ v3.1 v3.2
  refine ⟨v1, v2, ⟨v3.1, by rw [t1]; exact v3.2⟩, v4, fun h => ⟨?_, (v5 h).2⟩, fun h => ⟨⟨(v6 h).1.1, by rw [h4 _ (v6 h).1.1 (v6 h).1.2]; exact (v6 h).1.2⟩, (v6 h).2⟩, fun h => ⟨(v7 h).1, h5 _ (v7 h).1 (v7 h).2⟩, v8, v9⟩
  have hj := (v5 h).1
  unfold hb_jm hb_js at hj ⊢
  rw [t1, h3]
  exact hj
theorem bk_ext.TR {D E : hb_G} (h : bk_ext D E) : ∀ {r : List Nat}, bk_TR E r = bk_TR D r
  | [] => rfl
  | e :: r => by
    show bk_st E (bk_TR E r) e = bk_st D (bk_TR D r) e
    rw [h.TR (r := r)]
    unfold bk_st
    rw [h.1 63 (by omega), h.1 65 (by omega), h.1 67 (by omega), h.1 68 (by omega)]
theorem bk_ext.ok {D E : hb_G} (h : bk_ext D E) {e : Nat} {p : bk_P} (hv : bk_vd D e) (hk : bk_ok D p e) : bk_ok E p e := by
  unfold bk_ok at hk ⊢
  rw [h.1 63 (by omega), h.1 65 (by omega), h.1 67 (by omega), h.1 68 (by omega)]
  refine ⟨fun h1 => ?_, hk.2⟩
  have h2 := hk.1 h1
  unfold bk_my at h2 ⊢
  have v6 := hv.2.2.2.2.2.1 h1
  rw [h.2.2.1, h.2.2.2.1 _ v6.1.1 v6.1.2, h.2.2.2.1 _ hv.2.2.1.1 hv.2.2.1.2]
  exact h2
theorem bk_ext.LG {D E : hb_G} (h : bk_ext D E) : ∀ {r : List Nat}, (∀ e ∈ r, bk_vd D e) → bk_LG D r → bk_LG E r
  | [], _, _ => trivial
  | e :: r, hv, hl => ⟨by rw [h.TR]; exact h.ok (hv e List.mem_cons_self) hl.1, h.LG (fun f hf => hv f (List.mem_cons_of_mem _ hf)) hl.2⟩
theorem bk_ext.bf {D E : hb_G} (h : bk_ext D E) {e f : Nat} (hb : bk_bf D e f) : bk_bf E e f := by
  unfold bk_bf bk_rk at hb ⊢
  rw [h.1 63 (by omega), h.1 66 (by omega)]
  exact hb
theorem bk_ext.mb {D E : hb_G} (h : bk_ext D E) : bk_mb E = bk_mb D := by
  funext e
  unfold bk_mb
  rw [h.1 63 (by omega)]
theorem bk_ext.lt {D E : hb_G} (h : bk_ext D E) {e f : Nat} (hb : bk_lt D e f) : bk_lt E e f := by
  unfold bk_lt at hb ⊢
  rw [h.1 66 (by omega)]
  exact hb
theorem bk_ext.obj {D E G H : hb_G} (h : bk_ext D E) {e q : Nat} (hq : H q = G q) (ho : bk_obj D G e q) : bk_obj E H e q := by
  unfold bk_obj at ho ⊢
  rw [hq, h.1 63 (by omega), h.1 65 (by omega), h.1 66 (by omega), h.1 67 (by omega), h.1 68 (by omega), h.1 69 (by omega)]
  exact ho
theorem bk_stat {D G H : hb_G} {F : hb_F} {na n : Nat} {xs : List Nat} {ob : Nat → Nat} (hJ : bk_J D G F na n xs ob) (hx : bk_ext D H) (hsb : bk_sb H) (hsl : bk_sl H H) (hr : ∀ p : Nat, p = 25 ∨ p = 70 ∨ 77 ≤ p → H p = G p) (h47 : ∀ i : Int, i = 17 ∨ i = 18 ∨ i = 26 → H 47 i = G 47 i) (hZ : bk_Z H) : bk_J H H F na n xs ob := by
  obtain ⟨j1, j2, ⟨c1, c2, c3, c4, c5, c6, c7, c8, c9, c10⟩, ⟨n1, n2, n3, n4, n5, n6, n7, n8, n9, n10⟩, j5, j6⟩ := hJ
  refine ⟨fun _ _ => rfl, rfl, ⟨hsb, hsl, c3.imp hx.bf, fun e he => hx.vd (c4 e he), c5, hx.LG (fun e he => c4 e (List.mem_reverse.mp he)) c6, fun a e b hab h0 t ht => ?_, by rw [hr 25 (by omega)]; exact c8, fun e he => ⟨(c9 e he).1, hx.obj (hr _ (by omega)) (c9 e he).2⟩, c10⟩, ⟨n1, (h47 17 (by omega)).trans n2, by rw [hr 25 (by omega)]; exact n3, (h47 18 (by omega)).trans n4, fun e => by rw [hx.1 64 (by omega)]; exact n5 e, fun e he => ⟨hx.vd (n6 e he).1, by rw [hx.1 69 (by omega)]; exact (n6 e he).2⟩, n7, n8, n9, by rw [hx.mb]; exact n10.imp hx.lt⟩, ⟨by rw [h47 26 (by omega), hx.mb]; exact j5.1, fun j e he => by rw [hr 70 (by omega)]; rw [hx.mb] at he; exact j5.2 j e he⟩, hZ⟩
  rw [hx.TR, hx.2.1, hx.1 65 (by omega)]
  rw [hx.1 63 (by omega)] at h0
  exact c7 a e b hab h0 t ht
/-! how all stands does not hang on the rest -/
def bk_sd (D E : hb_G) : Prop := ∀ p : Nat, (51 ≤ p ∧ p ≤ 57) ∨ (63 ≤ p ∧ p ≤ 69) ∨ p = 73 → E p = D p
theorem bk_sd.TR {D E : hb_G} (h : bk_sd D E) : ∀ {r : List Nat}, bk_TR E r = bk_TR D r
  | [] => rfl
  | e :: r => by
    show bk_st E (bk_TR E r) e = bk_st D (bk_TR D r) e
    rw [h.TR (r := r)]
    unfold bk_st
    rw [h 63 (by omega), h 65 (by omega), h 67 (by omega), h 68 (by omega)]
theorem bk_sd.fl {D E : hb_G} (h : bk_sd D E) {u t : Int} : ∀ {r : List Nat}, bk_fl E u t r = bk_fl D u t r
  | [] => by unfold bk_fl; rw [h 52 (by omega), h 53 (by omega)]
  | e :: r => by
    unfold bk_fl
    rw [h.fl (r := r), h 63 (by omega), h 73 (by omega), h 65 (by omega), h 67 (by omega), h 68 (by omega)]
theorem bk_sd.cn {D E : hb_G} (h : bk_sd D E) {t k : Int} : ∀ {r : List Nat}, bk_cn E t k r = bk_cn D t k r
  | [] => rfl
  | e :: r => by
    unfold bk_cn
    rw [h.cn (r := r), h 63 (by omega), h 65 (by omega), h 67 (by omega)]
theorem bk_sd.DU {D E : hb_G} (h : bk_sd D E) {u t k : Int} : ∀ {r : List Nat}, bk_DU E u t k r = bk_DU D u t k r
  | [] => by unfold bk_DU; rw [h 52 (by omega), h 53 (by omega), h 56 (by omega)]
  | e :: r => by
    unfold bk_DU bk_ct hb_aj
    rw [h.DU (r := r), h.fl, h.cn, h 63 (by omega), h 65 (by omega), h 67 (by omega), h 66 (by omega), h 54 (by omega), h 56 (by omega), h 57 (by omega), h 68 (by omega), h 69 (by omega)]
theorem bk_sd.SD {D E G : hb_G} (h : bk_sd D E) {r : List Nat} (hs : bk_SD D G r) : bk_SD E G r := by
  obtain ⟨S1, S2, S3, S4, S5⟩ := hs
  refine ⟨⟨by rw [h.TR]; exact S1.1, S1.2⟩, fun t ht hk => ?_, fun t k ht hk h1 h2 => ?_, fun t k ht hk => ?_, fun t o ht ho => ?_⟩
  · rw [h 51 (by omega)] at hk; rw [h.fl, h.fl]; exact S2 t ht hk
  · rw [h 51 (by omega)] at h1; rw [h 55 (by omega)] at h2; rw [h.DU, h.DU, h.DU]; exact S3 t k ht hk h1 h2
  · rw [h.cn]; exact S4 t k ht hk
  · unfold bk_RB; rw [h 63 (by omega), h 65 (by omega), h 67 (by omega)]; exact S5 t o ht ho
theorem bk_sd.sh {D E G H : hb_G} (h : bk_sd D E) {xs : List Nat} (hk : ∀ p : Nat, 32 ≤ p ∧ p ≤ 45 → H p = G p) (hs : bk_sh D G xs) : bk_sh E H xs := by
  refine bk_sh_c (G := G) ?_ hk
  rcases hs with h1 | ⟨h1, a, b, h2, h3, h4, h5⟩
  · exact Or.inl h1
  · exact Or.inr ⟨h1, a, b, h2, by unfold bk_pf; rw [h 66 (by omega)]; exact h3, h4, h.SD h5⟩
/-! how many things there are -/
theorem bk_sz_b {f : Int → Int} : ∀ {n : Nat}, 0 ≤ bk_sz f n ∧ bk_sz f n ≤ n
  | 0 => ⟨Int.le_refl _, Int.le_refl _⟩
  | n + 1 => by
    have := bk_sz_b (f := f) (n := n)
    unfold bk_sz
    split <;> omega
theorem bk_sz_0 {f : Int → Int} : ∀ {n : Nat}, bk_sz f n ≤ 0 → ∀ t : Nat, t < n → f t = -1
  | 0, _, t, ht => absurd ht (Nat.not_lt_zero _)
  | n + 1, h, t, ht => by
    have hb := bk_sz_b (f := f) (n := n)
    unfold bk_sz at h
    by_cases e : f n = -1
    · rw [if_pos e] at h
      by_cases et : t = n
      · rw [et]; exact e
      · exact bk_sz_0 (n := n) (by omega) t (by omega)
    · rw [if_neg e] at h; omega
theorem bk_sz_u {f : Int → Int} {t : Nat} {k : Int} (h1 : f t = -1) (hk : k ≠ -1) : ∀ {n : Nat}, bk_sz (hb_uf f t k) n = bk_sz f n + if t < n then 1 else 0
  | 0 => by unfold bk_sz; rw [if_neg (by omega)]; rfl
  | n + 1 => by
    have ih := bk_sz_u h1 hk (n := n)
    unfold bk_sz
    rw [ih]
    unfold hb_uf
    by_cases e : (n : Int) = t
    · have e2 : n = t := by omega
      subst e2
      rw [if_pos rfl, if_neg hk, if_pos h1, if_neg (show ¬ n < n by omega), if_pos (show n < n + 1 by omega)]
      all_goals omega
    · rw [if_neg e]
      by_cases e3 : t < n
      · rw [if_pos e3, if_pos (show t < n + 1 by omega)]; omega
      · rw [if_neg e3, if_neg (show ¬ t < n + 1 by omega)]; omega
theorem bk_sz_c {f g : Int → Int} : ∀ {n : Nat}, (∀ t : Nat, t < n → g t = f t) → bk_sz g n = bk_sz f n
  | 0, _ => rfl
  | n + 1, h => by
    unfold bk_sz
    rw [bk_sz_c (n := n) (fun t ht => h t (by omega)), h n (by omega)]
theorem st_life {l : Launch} {k m c : Int} (ik : hb_in k) (im : hb_in m) (ic : hb_in c) : hb_stQ l bk_I yX8_life cX8_life 4 (some .boolean) yX9_life cX9_life 4 (some .boolean) [hb_i k, hb_i m, hb_i c] := by
  intro G F na hI
  obtain ⟨D, n, xs, ob, hJ, hsh, hG, hbn⟩ := hI
  have hI0 := bk_I0 hJ hsh hG hbn
  by_cases hP : (0 ≤ k ∧ k < 12) ∧ (0 ≤ m ∧ m ≤ 1000000) ∧ (0 ≤ c ∧ c ≤ 1000000)
  · have h1 := c_lifeY (l := l) (F := F) (na := na) ik im ic hP hG
    have hG1 : hb_rg (hb_u2 (hb_u2 G 4 k m) 5 k c) := (hG.u2 im).u2 ic
    have h2 := c_mLifeY (l := l) (F := F) (na := na) ik im ic (by omega) hG1
    have hw := hJ.1
    have hsl := hJ.2.2.1.2.1
    have hsb := hJ.2.2.1.1
    let H : hb_G := hb_u2 (hb_u2 (hb_u2 (hb_u2 (hb_u2 G 4 k m) 5 k c) 47 0 0) 49 k m) 50 k c
    have r : ∀ p : Nat, p ≠ 4 → p ≠ 5 → p ≠ 47 → p ≠ 49 → p ≠ 50 → H p = G p := fun p a1 a2 a3 a4 a5 => by
      show hb_u2 _ 50 k c p = _
      rw [hb_u2_n a5, hb_u2_n a4, hb_u2_n a3, hb_u2_n a2, hb_u2_n a1]
    have rd : ∀ p : Nat, 48 ≤ p ∧ p ≤ 69 → p ≠ 49 → p ≠ 50 → H p = D p := fun p hp a1 a2 => (r p (by omega) (by omega) (by omega) a1 a2).trans (hw p hp)
    have r73 : H 73 = D 73 := (r 73 (by decide) (by decide) (by decide) (by decide) (by decide)).trans hJ.2.1
    have r49 : ∀ z, H 49 z = hb_uf (D 49) k m z := fun z => by rw [← hw 49 (by omega)]; rfl
    have r50 : ∀ z, H 50 z = hb_uf (D 50) k c z := fun z => by rw [← hw 50 (by omega)]; rfl
    have hext : bk_ext D H := ⟨fun p hp => rd p (by omega) (by omega) (by omega), r73, rd 48 (by omega) (by decide) (by decide), fun t _ _ => by rw [rd 51 (by omega) (by decide) (by decide)], fun z _ h => by rw [rd 55 (by omega) (by decide) (by decide)]; exact h⟩
    have hsb2 : bk_sb H := by
      unfold bk_sb
      rw [rd 48 (by omega) (by decide) (by decide), rd 51 (by omega) (by decide) (by decide), rd 52 (by omega) (by decide) (by decide), rd 53 (by omega) (by decide) (by decide), rd 54 (by omega) (by decide) (by decide), rd 55 (by omega) (by decide) (by decide), rd 56 (by omega) (by decide) (by decide), rd 57 (by omega) (by decide) (by decide), rd 58 (by omega) (by decide) (by decide), rd 61 (by omega) (by decide) (by decide), rd 62 (by omega) (by decide) (by decide)]
      refine ⟨hsb.1, fun z hz => ?_, hsb.2.2⟩
      rw [r49, r50]
      unfold hb_uf
      have := hsb.2.1 z hz
      split <;> omega
    have hsl2 : bk_sl H H := by
      obtain ⟨l1, l2, l3, l4, l5⟩ := hsl
      unfold bk_sl
      rw [r 2 (by decide) (by decide) (by decide) (by decide) (by decide), r 7 (by decide) (by decide) (by decide) (by decide) (by decide), r 9 (by decide) (by decide) (by decide) (by decide) (by decide), r 10 (by decide) (by decide) (by decide) (by decide) (by decide), r 11 (by decide) (by decide) (by decide) (by decide) (by decide), r 13 (by decide) (by decide) (by decide) (by decide) (by decide), r 15 (by decide) (by decide) (by decide) (by decide) (by decide), r 16 (by decide) (by decide) (by decide) (by decide) (by decide), r 17 (by decide) (by decide) (by decide) (by decide) (by decide), r 18 (by decide) (by decide) (by decide) (by decide) (by decide), r 20 (by decide) (by decide) (by decide) (by decide) (by decide), r 21 (by decide) (by decide) (by decide) (by decide) (by decide), r 22 (by decide) (by decide) (by decide) (by decide) (by decide), r 23 (by decide) (by decide) (by decide) (by decide) (by decide), r 24 (by decide) (by decide) (by decide) (by decide) (by decide)]
      rw [rd 48 (by omega) (by decide) (by decide), rd 51 (by omega) (by decide) (by decide), rd 52 (by omega) (by decide) (by decide), rd 53 (by omega) (by decide) (by decide), rd 54 (by omega) (by decide) (by decide), rd 55 (by omega) (by decide) (by decide), rd 56 (by omega) (by decide) (by decide), rd 57 (by omega) (by decide) (by decide), rd 58 (by omega) (by decide) (by decide), rd 59 (by omega) (by decide) (by decide), rd 60 (by omega) (by decide) (by decide), rd 61 (by omega) (by decide) (by decide), rd 62 (by omega) (by decide) (by decide)]
      refine ⟨l1, l2, l3, l4, fun z hz => ?_⟩
      rw [r49, r50]
      show hb_uf (G 4) k m z = _ ∧ hb_uf (G 5) k c z = _
      unfold hb_uf
      rw [(l5 z hz).1, (l5 z hz).2]
      exact ⟨rfl, rfl⟩
    have hZ : bk_Z H := by
      unfold bk_Z
      rw [r 6 (by decide) (by decide) (by decide) (by decide) (by decide), r 7 (by decide) (by decide) (by decide) (by decide) (by decide)]
      exact hJ.2.2.2.2.2
    have hI2 : bk_I H F na := ⟨H, n, xs, ob, bk_stat hJ hext hsb2 hsl2 (fun p hp => r p (by omega) (by omega) (by omega) (by omega) (by omega)) (fun z hz => by
        show hb_uf (G 47) 0 0 z = G 47 z
        unfold hb_uf; rw [if_neg (by omega)]) hZ, bk_sd.sh (fun p hp => by rcases hp with h | h | h; exact rd p (by omega) (by omega) (by omega); exact rd p (by omega) (by omega) (by omega); rw [h]; exact r73) (fun p hp => r p (by omega) (by omega) (by omega) (by omega) (by omega)) hsh, ((hG1.u2 (by decide)).u2 im).u2 ic, bk_bn_c (fun p hp => r p (by omega) (by omega) (by omega) (by omega) (by omega)) hbn⟩
    exact ⟨1, _, H, 1, 1, by decide, by omega, by omega, h1, h2, hI2⟩
  · exact ⟨0, G, _, 1, 1, by decide, by omega, by omega, c_lifeN ik im ic hP hG, c_mLifeN ik im ic (by omega) hG, hI0⟩
theorem st_order {l : Launch} {q k s t r : Int} (iq : hb_in q) (ik : hb_in k) (is : hb_in s) (it : hb_in t) (ir : hb_in r) : hb_stQ l bk_I yX8_order cX8_order 8 (some .boolean) yX9_order cX9_order 6 (some .boolean) [hb_i q, hb_i k, hb_i s, hb_i t, hb_i r] := by
  intro G F na hI
  obtain ⟨D, n, xs, ob, hJ, hsh, hG, hbn⟩ := hI
  have hI0 := bk_I0 hJ hsh hG hbn
  have hw := hJ.1
  have hsl := hJ.2.2.1.2.1
  have hsb := hJ.2.2.1.1
  have w55 : G 55 = D 55 := hw 55 (by omega)
  have w51 : G 51 = D 51 := hw 51 (by omega)
  by_cases hP : (0 ≤ q ∧ q < 8) ∧ (0 ≤ k ∧ k < 12) ∧ (0 ≤ s ∧ s < 1600) ∧ s / 40 ≤ s % 40 ∧ (0 ≤ t ∧ t < 16 ∧ G 13 t ≠ -1) ∧ (r = -1 ∨ (0 ≤ r ∧ r < 16 ∧ G 13 r ≠ -1))
  · have h1 := c_orderY (l := l) (F := F) (na := na) iq ik is it ir hP hG
    have hG1 : hb_rg (hb_os G q k (s / 40) (s % 40) t r) := by
      unfold hb_os
      exact ((((hG.u2 ik).u2 (by constructor <;> omega)).u2 (by constructor <;> omega)).u2 it).u2 ir
    have h2 := c_mOrderY (l := l) (F := F) (na := na) (G := hb_os G q k (s / 40) (s % 40) t r) iq ik is it ir (by
      have x1 := hP.2.2.2.2.1
      have y1 := (bk_tk2 hsl hw (k := t)).mp x1
      refine ⟨by omega, by omega, by omega, hP.2.2.2.1, y1, ?_⟩
      rcases hP.2.2.2.2.2 with h | h
      · exact Or.inl h
      · exact Or.inr ((bk_tk2 hsl hw (k := r)).mp h)) hG1
    let H : hb_G := hb_jo (hb_os G q k (s / 40) (s % 40) t r) q k s t r
    have rr : ∀ p : Nat, p ≠ 47 → p ≠ 20 → p ≠ 21 → p ≠ 22 → p ≠ 23 → p ≠ 24 → p ≠ 58 → p ≠ 59 → p ≠ 60 → p ≠ 61 → p ≠ 62 → H p = G p := fun p a47 a20 a21 a22 a23 a24 a58 a59 a60 a61 a62 => by
      show hb_jo (hb_os G q k (s / 40) (s % 40) t r) q k s t r p = _
      unfold hb_jo hb_os
      rw [hb_u2_n a62, hb_u2_n a61, hb_u2_n a60, hb_u2_n a59, hb_u2_n a58, hb_u2_n a47, hb_u2_n a24, hb_u2_n a23, hb_u2_n a22, hb_u2_n a21, hb_u2_n a20]
    have rd : ∀ p : Nat, 48 ≤ p ∧ p ≤ 69 → p ≠ 58 → p ≠ 59 → p ≠ 60 → p ≠ 61 → p ≠ 62 → H p = D p := fun p hp a58 a59 a60 a61 a62 => (rr p (by omega) (by omega) (by omega) (by omega) (by omega) (by omega) a58 a59 a60 a61 a62).trans (hw p hp)
    have r73 : H 73 = D 73 := (rr 73 (by decide) (by decide) (by decide) (by decide) (by decide) (by decide) (by decide) (by decide) (by decide) (by decide) (by decide)).trans hJ.2.1
    have z58 : ∀ z, H 58 z = hb_uf (D 58) q k z := fun z => by rw [← hw 58 (by omega)]; rfl
    have z59 : ∀ z, H 59 z = hb_uf (D 59) q (s / 40) z := fun z => by rw [← hw 59 (by omega)]; rfl
    have z60 : ∀ z, H 60 z = hb_uf (D 60) q (s % 40) z := fun z => by rw [← hw 60 (by omega)]; rfl
    have z61 : ∀ z, H 61 z = hb_uf (D 61) q t z := fun z => by rw [← hw 61 (by omega)]; rfl
    have z62 : ∀ z, H 62 z = hb_uf (D 62) q r z := fun z => by rw [← hw 62 (by omega)]; rfl
    have hext : bk_ext D H := ⟨fun p hp => rd p (by omega) (by omega) (by omega) (by omega) (by omega) (by omega), r73, rd 48 (by omega) (by decide) (by decide) (by decide) (by decide) (by decide), fun z _ _ => by rw [rd 51 (by omega) (by decide) (by decide) (by decide) (by decide) (by decide)], fun z _ h => by rw [rd 55 (by omega) (by decide) (by decide) (by decide) (by decide) (by decide)]; exact h⟩
    have hsb2 : bk_sb H := by
      unfold bk_sb
      rw [rd 48 (by omega) (by decide) (by decide) (by decide) (by decide) (by decide), rd 49 (by omega) (by decide) (by decide) (by decide) (by decide) (by decide), rd 50 (by omega) (by decide) (by decide) (by decide) (by decide) (by decide), rd 51 (by omega) (by decide) (by decide) (by decide) (by decide) (by decide), rd 52 (by omega) (by decide) (by decide) (by decide) (by decide) (by decide), rd 53 (by omega) (by decide) (by decide) (by decide) (by decide) (by decide), rd 54 (by omega) (by decide) (by decide) (by decide) (by decide) (by decide), rd 55 (by omega) (by decide) (by decide) (by decide) (by decide) (by decide), rd 56 (by omega) (by decide) (by decide) (by decide) (by decide) (by decide), rd 57 (by omega) (by decide) (by decide) (by decide) (by decide) (by decide)]
      refine ⟨hsb.1, hsb.2.1, hsb.2.2.1, hsb.2.2.2.1, fun z hz => ?_⟩
      rw [z58, z61, z62]
      unfold hb_uf
      have h0 := hsb.2.2.2.2 z hz
      have hk := hP.2.1
      have ht := hP.2.2.2.2.1
      have l3 := (hsl.2.2.1 t ⟨ht.1, ht.2.1⟩).1
      by_cases e : z = q
      · rw [if_pos e, if_pos e, if_pos e]
        refine ⟨by omega, fun _ => ⟨⟨⟨ht.1, ht.2.1⟩, by rw [← l3]; exact ht.2.2⟩, ?_⟩⟩
        rcases hP.2.2.2.2.2 with h | h <;> omega
      · rw [if_neg e, if_neg e, if_neg e]; exact h0
    have hsl2 : bk_sl H H := by
      obtain ⟨l1, l2, l3, l4, l5⟩ := hsl
      unfold bk_sl
      rw [rr 2 (by decide) (by decide) (by decide) (by decide) (by decide) (by decide) (by decide) (by decide) (by decide) (by decide) (by decide), rr 7 (by decide) (by decide) (by decide) (by decide) (by decide) (by decide) (by decide) (by decide) (by decide) (by decide) (by decide), rr 9 (by decide) (by decide) (by decide) (by decide) (by decide) (by decide) (by decide) (by decide) (by decide) (by decide) (by decide), rr 10 (by decide) (by decide) (by decide) (by decide) (by decide) (by decide) (by decide) (by decide) (by decide) (by decide) (by decide), rr 11 (by decide) (by decide) (by decide) (by decide) (by decide) (by decide) (by decide) (by decide) (by decide) (by decide) (by decide), rr 13 (by decide) (by decide) (by decide) (by decide) (by decide) (by decide) (by decide) (by decide) (by decide) (by decide) (by decide), rr 15 (by decide) (by decide) (by decide) (by decide) (by decide) (by decide) (by decide) (by decide) (by decide) (by decide) (by decide), rr 16 (by decide) (by decide) (by decide) (by decide) (by decide) (by decide) (by decide) (by decide) (by decide) (by decide) (by decide), rr 17 (by decide) (by decide) (by decide) (by decide) (by decide) (by decide) (by decide) (by decide) (by decide) (by decide) (by decide), rr 18 (by decide) (by decide) (by decide) (by decide) (by decide) (by decide) (by decide) (by decide) (by decide) (by decide) (by decide), rr 4 (by decide) (by decide) (by decide) (by decide) (by decide) (by decide) (by decide) (by decide) (by decide) (by decide) (by decide), rr 5 (by decide) (by decide) (by decide) (by decide) (by decide) (by decide) (by decide) (by decide) (by decide) (by decide) (by decide), rd 48 (by omega) (by decide) (by decide) (by decide) (by decide) (by decide), rd 51 (by omega) (by decide) (by decide) (by decide) (by decide) (by decide), rd 52 (by omega) (by decide) (by decide) (by decide) (by decide) (by decide), rd 53 (by omega) (by decide) (by decide) (by decide) (by decide) (by decide), rd 54 (by omega) (by decide) (by decide) (by decide) (by decide) (by decide), rd 55 (by omega) (by decide) (by decide) (by decide) (by decide) (by decide), rd 56 (by omega) (by decide) (by decide) (by decide) (by decide) (by decide), rd 57 (by omega) (by decide) (by decide) (by decide) (by decide) (by decide), rd 49 (by omega) (by decide) (by decide) (by decide) (by decide) (by decide), rd 50 (by omega) (by decide) (by decide) (by decide) (by decide) (by decide)]
      refine ⟨l1, l2, l3, fun z hz => ?_, l5⟩
      rw [z58, z59, z60, z61, z62]
      have h4 := l4 z hz
      show hb_uf (G 20) q k z = _ ∧ hb_uf (G 21) q (s / 40) z = _ ∧ hb_uf (G 22) q (s % 40) z = _ ∧ hb_uf (G 23) q t z = _ ∧ hb_uf (G 24) q r z = _
      unfold hb_uf
      rw [h4.1, h4.2.1, h4.2.2.1, h4.2.2.2.1, h4.2.2.2.2]
      exact ⟨rfl, rfl, rfl, rfl, rfl⟩
    have hZ : bk_Z H := by
      exact hJ.2.2.2.2.2
    have hrH : hb_rg H := by
      show hb_rg (hb_jo _ q k s t r)
      unfold hb_jo
      exact (((((hG1.u2 (by decide)).u2 ik).u2 (by constructor <;> omega)).u2 (by constructor <;> omega)).u2 it).u2 ir
    have hbnH : hb_bn H := by
      exact bk_bn_c (fun p hp => rr p (by omega) (by omega) (by omega) (by omega) (by omega) (by omega) (by omega) (by omega) (by omega) (by omega) (by omega)) hbn
    have hshH : bk_sh H H xs := by
      exact bk_sd.sh (fun p hp => by
        rcases hp with h | h | h
        · exact rd p (by omega) (by omega) (by omega) (by omega) (by omega) (by omega)
        · exact rd p (by omega) (by omega) (by omega) (by omega) (by omega) (by omega)
        · rw [h]; exact r73) (fun p hp => rr p (by omega) (by omega) (by omega) (by omega) (by omega) (by omega) (by omega) (by omega) (by omega) (by omega) (by omega)) hsh
    have h47 : ∀ z : Int, z = 17 ∨ z = 18 ∨ z = 26 → H 47 z = G 47 z := fun z hz => by
      show hb_uf (G 47) 0 0 z = G 47 z
      unfold hb_uf; rw [if_neg (by omega)]
    have hJH : bk_J H H F na n xs ob := bk_stat hJ hext hsb2 hsl2 (fun p hp => rr p (by omega) (by omega) (by omega) (by omega) (by omega) (by omega) (by omega) (by omega) (by omega) (by omega) (by omega)) h47 hZ
    exact ⟨1, _, H, 2, 2, by decide, by omega, by omega, h1, h2, H, n, xs, ob, hJH, hshH, hrH, hbnH⟩
  · exact ⟨0, G, _, 2, 2, by decide, by omega, by omega, c_orderN iq ik is it ir hP hG, c_mOrderN iq ik is it ir (fun h => hP ⟨by omega, by omega, by omega, h.2.2.2.1, (bk_tk2 hsl hw (k := t)).mpr h.2.2.2.2.1, h.2.2.2.2.2.elim Or.inl (fun h9 => Or.inr ((bk_tk2 hsl hw (k := r)).mpr h9))⟩) hG, hI0⟩
theorem st_task {l : Launch} {t k m c w : Int} (it : hb_in t) (ik : hb_in k) (im : hb_in m) (ic : hb_in c) (iw : hb_in w) : hb_stQ l bk_I yX8_task cX8_task 8 (some .boolean) yX9_task cX9_task 6 (some .boolean) [hb_i t, hb_i k, hb_i m, hb_i c, hb_i w] := by
  intro G F na hI
  obtain ⟨D, n, xs, ob, hJ, hsh, hG, hbn⟩ := hI
  have hI0 := bk_I0 hJ hsh hG hbn
  have hw := hJ.1
  have hsl := hJ.2.2.1.2.1
  have hsb := hJ.2.2.1.1
  have w55 : G 55 = D 55 := hw 55 (by omega)
  have w51 : G 51 = D 51 := hw 51 (by omega)
  by_cases hP : (0 ≤ t ∧ t < 16) ∧ (0 ≤ k ∧ k < 12) ∧ 0 ≤ w ∧ (G 13 t = -1 ∨ G 13 t = k) ∧ (0 ≤ m ∧ m ≤ 100000) ∧ (0 ≤ c ∧ c ≤ 100000) ∧ w / 1000 ≤ 100000 ∧ w % 1000 ≤ 500
  · have h1 := c_taskY (l := l) (F := F) (na := na) it ik im ic iw hP hG
    have hG1 : hb_rg (hb_u2 (hb_ts G t k m c (w / 1000) (w % 1000)) 32 9 (-1)) := by
      unfold hb_ts
      exact (((((hG.u2 ik).u2 im).u2 ic).u2 (by constructor <;> omega)).u2 (by constructor <;> omega)).u2 (by decide)
    have h2 := c_mTaskY (l := l) (F := F) (na := na) (G := hb_u2 (hb_ts G t k m c (w / 1000) (w % 1000)) 32 9 (-1)) it ik im ic iw (by
      have x1 := (hsl.2.2.1 t hP.1).1
      refine ⟨by omega, by omega, hP.2.2.2.2.1, hP.2.2.2.2.2.1, by omega, by omega, ?_⟩
      show G 55 t = -1 ∨ G 55 t = k
      rw [w55, ← x1]; exact hP.2.2.2.1) hG1
    let H : hb_G := hb_jt (hb_u2 (hb_ts G t k m c (w / 1000) (w % 1000)) 32 9 (-1)) t k m c w
    have rr : ∀ p : Nat, p ≠ 47 → p ≠ 13 → p ≠ 15 → p ≠ 16 → p ≠ 17 → p ≠ 18 → p ≠ 32 → p ≠ 55 → p ≠ 56 → p ≠ 57 → H p = G p := fun p a47 a13 a15 a16 a17 a18 a32 a55 a56 a57 => by
      show hb_jt (hb_u2 (hb_ts G t k m c (w / 1000) (w % 1000)) 32 9 (-1)) t k m c w p = _
      unfold hb_jt hb_ts
      rw [hb_u2_n a57, hb_u2_n a56, hb_u2_n a56, hb_u2_n a56, hb_u2_n a55, hb_u2_n a47, hb_u2_n a32, hb_u2_n a18, hb_u2_n a17, hb_u2_n a16, hb_u2_n a15, hb_u2_n a13]
    have rd : ∀ p : Nat, 48 ≤ p ∧ p ≤ 69 → p ≠ 55 → p ≠ 56 → p ≠ 57 → H p = D p := fun p hp a55 a56 a57 => (rr p (by omega) (by omega) (by omega) (by omega) (by omega) (by omega) (by omega) a55 a56 a57).trans (hw p hp)
    have r73 : H 73 = D 73 := (rr 73 (by decide) (by decide) (by decide) (by decide) (by decide) (by decide) (by decide) (by decide) (by decide) (by decide)).trans hJ.2.1
    have z55 : ∀ z, H 55 z = hb_uf (D 55) t k z := fun z => by rw [← hw 55 (by omega)]; rfl
    have z57 : ∀ z, H 57 z = hb_uf (D 57) t (w % 1000) z := fun z => by rw [← hw 57 (by omega)]; rfl
    have z56 : ∀ z u, 0 ≤ u ∧ u < 3 → H 56 (3 * z + u) = if z = t then (if u = 0 then m else if u = 1 then c else w / 1000) else D 56 (3 * z + u) := fun z u hu => by
      rw [← hw 56 (by omega)]
      show hb_uf (hb_uf (hb_uf (G 56) (3 * t) m) (3 * t + 1) c) (3 * t + 2) (w / 1000) (3 * z + u) = _
      unfold hb_uf
      by_cases e : z = t
      · rw [if_pos e]
        by_cases e0 : u = 0
        · rw [if_pos e0, if_neg (by omega), if_neg (by omega), if_pos (by omega)]
        · rw [if_neg e0]
          by_cases e1 : u = 1
          · rw [if_pos e1, if_neg (by omega), if_pos (by omega)]
          · rw [if_neg e1, if_pos (by omega)]
      · rw [if_neg e, if_neg (by omega), if_neg (by omega), if_neg (by omega)]
    have hext : bk_ext D H := ⟨fun p hp => rd p (by omega) (by omega) (by omega) (by omega), r73, rd 48 (by omega) (by decide) (by decide) (by decide), fun z _ _ => by rw [rd 51 (by omega) (by decide) (by decide) (by decide)], fun z _ h => by
      rw [z55]; unfold hb_uf; split
      · omega
      · exact h⟩
    have hsb2 : bk_sb H := by
      unfold bk_sb
      rw [rd 48 (by omega) (by decide) (by decide) (by decide), rd 49 (by omega) (by decide) (by decide) (by decide), rd 50 (by omega) (by decide) (by decide) (by decide), rd 51 (by omega) (by decide) (by decide) (by decide), rd 52 (by omega) (by decide) (by decide) (by decide), rd 53 (by omega) (by decide) (by decide) (by decide), rd 54 (by omega) (by decide) (by decide) (by decide), rd 58 (by omega) (by decide) (by decide) (by decide), rd 61 (by omega) (by decide) (by decide) (by decide), rd 62 (by omega) (by decide) (by decide) (by decide)]
      refine ⟨hsb.1, hsb.2.1, hsb.2.2.1, fun z hz => ?_, fun z hz => ?_⟩
      · have h0 := hsb.2.2.2.1 z hz
        rw [z55, z57]
        refine ⟨?_, fun u hu => ?_, ?_⟩
        · unfold hb_uf; split <;> omega
        · rw [z56 z u hu]
          have h5 := h0.2.1 u hu
          split
          · split
            · omega
            · split <;> omega
          · exact h5
        · unfold hb_uf; split <;> omega
      · have h0 := hsb.2.2.2.2 z hz
        refine ⟨h0.1, fun hn => ⟨⟨(h0.2 hn).1.1, ?_⟩, (h0.2 hn).2⟩⟩
        rw [z55]; unfold hb_uf; split
        · omega
        · exact (h0.2 hn).1.2
    have hsl2 : bk_sl H H := by
      obtain ⟨l1, l2, l3, l4, l5⟩ := hsl
      unfold bk_sl
      rw [rr 2 (by decide) (by decide) (by decide) (by decide) (by decide) (by decide) (by decide) (by decide) (by decide) (by decide), rr 7 (by decide) (by decide) (by decide) (by decide) (by decide) (by decide) (by decide) (by decide) (by decide) (by decide), rr 9 (by decide) (by decide) (by decide) (by decide) (by decide) (by decide) (by decide) (by decide) (by decide) (by decide), rr 10 (by decide) (by decide) (by decide) (by decide) (by decide) (by decide) (by decide) (by decide) (by decide) (by decide), rr 11 (by decide) (by decide) (by decide) (by decide) (by decide) (by decide) (by decide) (by decide) (by decide) (by decide), rr 20 (by decide) (by decide) (by decide) (by decide) (by decide) (by decide) (by decide) (by decide) (by decide) (by decide), rr 21 (by decide) (by decide) (by decide) (by decide) (by decide) (by decide) (by decide) (by decide) (by decide) (by decide), rr 22 (by decide) (by decide) (by decide) (by decide) (by decide) (by decide) (by decide) (by decide) (by decide) (by decide), rr 23 (by decide) (by decide) (by decide) (by decide) (by decide) (by decide) (by decide) (by decide) (by decide) (by decide), rr 24 (by decide) (by decide) (by decide) (by decide) (by decide) (by decide) (by decide) (by decide) (by decide) (by decide), rr 4 (by decide) (by decide) (by decide) (by decide) (by decide) (by decide) (by decide) (by decide) (by decide) (by decide), rr 5 (by decide) (by decide) (by decide) (by decide) (by decide) (by decide) (by decide) (by decide) (by decide) (by decide), rd 48 (by omega) (by decide) (by decide) (by decide), rd 51 (by omega) (by decide) (by decide) (by decide), rd 52 (by omega) (by decide) (by decide) (by decide), rd 53 (by omega) (by decide) (by decide) (by decide), rd 54 (by omega) (by decide) (by decide) (by decide), rd 58 (by omega) (by decide) (by decide) (by decide), rd 59 (by omega) (by decide) (by decide) (by decide), rd 60 (by omega) (by decide) (by decide) (by decide), rd 61 (by omega) (by decide) (by decide) (by decide), rd 62 (by omega) (by decide) (by decide) (by decide), rd 49 (by omega) (by decide) (by decide) (by decide), rd 50 (by omega) (by decide) (by decide) (by decide)]
      refine ⟨l1, l2, fun z hz => ?_, l4, l5⟩
      rw [z55, z57, z56 z 0 (by decide), z56 z 1 (by decide), z56 z 2 (by decide)]
      have h3 := l3 z hz
      show hb_uf (G 13) t k z = _ ∧ hb_uf (G 15) t m z = _ ∧ hb_uf (G 16) t c z = _ ∧ hb_uf (G 17) t (w / 1000) z = _ ∧ hb_uf (G 18) t (w % 1000) z = _
      unfold hb_uf
      rw [h3.1, h3.2.1, h3.2.2.1, h3.2.2.2.1, h3.2.2.2.2]
      by_cases e : z = t
      · simp [if_pos e]
      · simp [if_neg e]
    have hZ : bk_Z H := by
      exact hJ.2.2.2.2.2
    have hrH : hb_rg H := by
      show hb_rg (hb_jt _ t k m c w)
      unfold hb_jt
      exact (((((hG1.u2 (by decide)).u2 ik).u2 im).u2 ic).u2 (by constructor <;> omega)).u2 (by constructor <;> omega)
    have hbnH : hb_bn H := by
      exact bk_bn_c (fun p hp => rr p (by omega) (by omega) (by omega) (by omega) (by omega) (by omega) (by omega) (by omega) (by omega) (by omega)) hbn
    have hshH : bk_sh H H xs := by
      exact Or.inl rfl
    have h47 : ∀ z : Int, z = 17 ∨ z = 18 ∨ z = 26 → H 47 z = G 47 z := fun z hz => by
      show hb_uf (G 47) 0 0 z = G 47 z
      unfold hb_uf; rw [if_neg (by omega)]
    have hJH : bk_J H H F na n xs ob := bk_stat hJ hext hsb2 hsl2 (fun p hp => rr p (by omega) (by omega) (by omega) (by omega) (by omega) (by omega) (by omega) (by omega) (by omega) (by omega)) h47 hZ
    exact ⟨1, _, H, 2, 1, by decide, by omega, by omega, h1, h2, H, n, xs, ob, hJH, hshH, hrH, hbnH⟩
  · exact ⟨0, G, _, 2, 1, by decide, by omega, by omega, c_taskN it ik im ic iw hP hG, c_mTaskN it ik im ic iw (fun h => hP (by
      have x1 := (hsl.2.2.1 t (by omega)).1
      have y1 : G 55 t = -1 ∨ G 55 t = k := h.2.2.2.2.2.2
      rw [w55, ← x1] at y1
      exact ⟨by omega, by omega, by omega, y1, h.2.2.1, h.2.2.2.1, by omega, by omega⟩)) hG, hI0⟩
theorem st_thing {l : Launch} {t k m c d : Int} (it : hb_in t) (ik : hb_in k) (im : hb_in m) (ic : hb_in c) (id : hb_in d) : hb_stQ l bk_I yX8_thing cX8_thing 6 (some .boolean) yX9_thing cX9_thing 6 (some .boolean) [hb_i t, hb_i k, hb_i m, hb_i c, hb_i d] := by
  intro G F na hI
  obtain ⟨D, n, xs, ob, hJ, hsh, hG, hbn⟩ := hI
  have hI0 := bk_I0 hJ hsh hG hbn
  have hw := hJ.1
  have hsl := hJ.2.2.1.2.1
  have hsb := hJ.2.2.1.1
  have w55 : G 55 = D 55 := hw 55 (by omega)
  have w51 : G 51 = D 51 := hw 51 (by omega)
  by_cases hP : (0 ≤ t ∧ t < 40) ∧ G 7 t = -1 ∧ (0 ≤ k ∧ k < 12) ∧ (0 ≤ m ∧ m ≤ 1000000) ∧ (0 ≤ c ∧ c ≤ 1000000) ∧ (0 ≤ d ∧ d ≤ 30000)
  · have h1 := c_thingY (l := l) (F := F) (na := na) it ik im ic id hP hG
    have hG1 : hb_rg (hb_u2 (hb_ta G t k m c d) 32 9 (-1)) := by
      have hz := bk_sz_b (f := G 7) (n := 40)
      rw [← hJ.2.2.2.2.2.1] at hz
      unfold hb_ta
      exact (((((hG.u2 ik).u2 im).u2 ic).u2 id).u2 (by constructor <;> omega)).u2 (by decide)
    have h2 := c_mThingY (l := l) (F := F) (na := na) (G := hb_u2 (hb_ta G t k m c d) 32 9 (-1)) it ik im ic id (by
      have x1 := (hsl.2.1 t hP.1).1
      refine ⟨by omega, ?_, by omega, hP.2.2.2⟩
      show G 51 t = -1
      rw [w51, ← x1]; exact hP.2.1) hG1
    let H : hb_G := hb_ja (hb_u2 (hb_ta G t k m c d) 32 9 (-1)) t k m c d
    have rr : ∀ p : Nat, p ≠ 47 → p ≠ 6 → p ≠ 7 → p ≠ 9 → p ≠ 10 → p ≠ 11 → p ≠ 32 → p ≠ 51 → p ≠ 52 → p ≠ 53 → p ≠ 54 → H p = G p := fun p a47 a6 a7 a9 a10 a11 a32 a51 a52 a53 a54 => by
      show hb_ja (hb_u2 (hb_ta G t k m c d) 32 9 (-1)) t k m c d p = _
      unfold hb_ja hb_ta
      rw [hb_u2_n a47, hb_u2_n a54, hb_u2_n a53, hb_u2_n a52, hb_u2_n a51, hb_u2_n a47, hb_u2_n a32, hb_u2_n a6, hb_u2_n a11, hb_u2_n a10, hb_u2_n a9, hb_u2_n a7]
    have rd : ∀ p : Nat, 48 ≤ p ∧ p ≤ 69 → p ≠ 51 → p ≠ 52 → p ≠ 53 → p ≠ 54 → H p = D p := fun p hp a51 a52 a53 a54 => (rr p (by omega) (by omega) (by omega) (by omega) (by omega) (by omega) (by omega) a51 a52 a53 a54).trans (hw p hp)
    have r73 : H 73 = D 73 := (rr 73 (by decide) (by decide) (by decide) (by decide) (by decide) (by decide) (by decide) (by decide) (by decide) (by decide) (by decide)).trans hJ.2.1
    have z51 : ∀ z, H 51 z = hb_uf (D 51) t k z := fun z => by rw [← hw 51 (by omega)]; rfl
    have z52 : ∀ z, H 52 z = hb_uf (D 52) t m z := fun z => by rw [← hw 52 (by omega)]; rfl
    have z53 : ∀ z, H 53 z = hb_uf (D 53) t c z := fun z => by rw [← hw 53 (by omega)]; rfl
    have z54 : ∀ z, H 54 z = hb_uf (D 54) t d z := fun z => by rw [← hw 54 (by omega)]; rfl
    have hext : bk_ext D H := ⟨fun p hp => rd p (by omega) (by omega) (by omega) (by omega) (by omega), r73, rd 48 (by omega) (by decide) (by decide) (by decide) (by decide), fun z hz hn => by
      rw [z51]; unfold hb_uf
      rw [if_neg (fun h => hn (by rw [h, ← (hsl.2.1 t hP.1).1]; exact hP.2.1))], fun z _ h => by rw [rd 55 (by omega) (by decide) (by decide) (by decide) (by decide)]; exact h⟩
    have hsb2 : bk_sb H := by
      unfold bk_sb
      rw [rd 48 (by omega) (by decide) (by decide) (by decide) (by decide), rd 49 (by omega) (by decide) (by decide) (by decide) (by decide), rd 50 (by omega) (by decide) (by decide) (by decide) (by decide), rd 55 (by omega) (by decide) (by decide) (by decide) (by decide), rd 56 (by omega) (by decide) (by decide) (by decide) (by decide), rd 57 (by omega) (by decide) (by decide) (by decide) (by decide), rd 58 (by omega) (by decide) (by decide) (by decide) (by decide), rd 61 (by omega) (by decide) (by decide) (by decide) (by decide), rd 62 (by omega) (by decide) (by decide) (by decide) (by decide)]
      refine ⟨hsb.1, hsb.2.1, fun z hz => ?_, hsb.2.2.2⟩
      have h0 := hsb.2.2.1 z hz
      rw [z51, z52, z53, z54]
      unfold hb_uf
      by_cases e : z = t
      · simp only [if_pos e]; omega
      · simp only [if_neg e]; exact h0
    have hsl2 : bk_sl H H := by
      obtain ⟨l1, l2, l3, l4, l5⟩ := hsl
      unfold bk_sl
      rw [rr 2 (by decide) (by decide) (by decide) (by decide) (by decide) (by decide) (by decide) (by decide) (by decide) (by decide) (by decide), rr 13 (by decide) (by decide) (by decide) (by decide) (by decide) (by decide) (by decide) (by decide) (by decide) (by decide) (by decide), rr 15 (by decide) (by decide) (by decide) (by decide) (by decide) (by decide) (by decide) (by decide) (by decide) (by decide) (by decide), rr 16 (by decide) (by decide) (by decide) (by decide) (by decide) (by decide) (by decide) (by decide) (by decide) (by decide) (by decide), rr 17 (by decide) (by decide) (by decide) (by decide) (by decide) (by decide) (by decide) (by decide) (by decide) (by decide) (by decide), rr 18 (by decide) (by decide) (by decide) (by decide) (by decide) (by decide) (by decide) (by decide) (by decide) (by decide) (by decide), rr 20 (by decide) (by decide) (by decide) (by decide) (by decide) (by decide) (by decide) (by decide) (by decide) (by decide) (by decide), rr 21 (by decide) (by decide) (by decide) (by decide) (by decide) (by decide) (by decide) (by decide) (by decide) (by decide) (by decide), rr 22 (by decide) (by decide) (by decide) (by decide) (by decide) (by decide) (by decide) (by decide) (by decide) (by decide) (by decide), rr 23 (by decide) (by decide) (by decide) (by decide) (by decide) (by decide) (by decide) (by decide) (by decide) (by decide) (by decide), rr 24 (by decide) (by decide) (by decide) (by decide) (by decide) (by decide) (by decide) (by decide) (by decide) (by decide) (by decide), rr 4 (by decide) (by decide) (by decide) (by decide) (by decide) (by decide) (by decide) (by decide) (by decide) (by decide) (by decide), rr 5 (by decide) (by decide) (by decide) (by decide) (by decide) (by decide) (by decide) (by decide) (by decide) (by decide) (by decide), rd 48 (by omega) (by decide) (by decide) (by decide) (by decide), rd 55 (by omega) (by decide) (by decide) (by decide) (by decide), rd 56 (by omega) (by decide) (by decide) (by decide) (by decide), rd 57 (by omega) (by decide) (by decide) (by decide) (by decide), rd 58 (by omega) (by decide) (by decide) (by decide) (by decide), rd 59 (by omega) (by decide) (by decide) (by decide) (by decide), rd 60 (by omega) (by decide) (by decide) (by decide) (by decide), rd 61 (by omega) (by decide) (by decide) (by decide) (by decide), rd 62 (by omega) (by decide) (by decide) (by decide) (by decide), rd 49 (by omega) (by decide) (by decide) (by decide) (by decide), rd 50 (by omega) (by decide) (by decide) (by decide) (by decide)]
      refine ⟨l1, fun z hz => ?_, l3, l4, l5⟩
      rw [z51, z52, z53, z54]
      have h2 := l2 z hz
      show hb_uf (G 7) t k z = _ ∧ hb_uf (G 9) t m z = _ ∧ hb_uf (G 10) t c z = _ ∧ hb_uf (G 11) t d z = _
      unfold hb_uf
      rw [h2.1, h2.2.1, h2.2.2.1, h2.2.2.2]
      exact ⟨rfl, rfl, rfl, rfl⟩
    have hZ : bk_Z H := by
      have h6 := hJ.2.2.2.2.2
      have htn : ((t.toNat : Nat) : Int) = t := Int.toNat_of_nonneg hP.1.1
      have hu := bk_sz_u (f := G 7) (t := t.toNat) (k := k) (by rw [htn]; exact hP.2.1) (by omega) (n := 40)
      rw [htn, if_pos (by omega)] at hu
      refine ⟨?_, ?_⟩
      · show G 6 4 + 1 = bk_sz (hb_uf (G 7) t k) 40
        rw [hu, h6.1]
      · show G 47 4 + 1 = G 6 4 + 1
        rw [h6.2]
    have hrH : hb_rg H := by
      have hz := bk_sz_b (f := G 7) (n := 40)
      rw [← hJ.2.2.2.2.2.1] at hz
      have h6 := hJ.2.2.2.2.2.2
      show hb_rg (hb_ja _ t k m c d)
      unfold hb_ja
      refine (((((hG1.u2 (by decide)).u2 ik).u2 im).u2 ic).u2 id).u2 ?_
      show hb_in (G 47 4 + 1)
      rw [h6]; constructor <;> omega
    have hbnH : hb_bn H := by
      refine ⟨fun z hz u hu => ?_, fun z hz => ?_⟩
      · rw [rr u (by omega) (by omega) (by omega) (by omega) (by omega) (by omega) (by omega) (by omega) (by omega) (by omega) (by omega)]; exact hbn.1 z hz u hu
      · rw [rr 38 (by decide) (by decide) (by decide) (by decide) (by decide) (by decide) (by decide) (by decide) (by decide) (by decide) (by decide), rr 39 (by decide) (by decide) (by decide) (by decide) (by decide) (by decide) (by decide) (by decide) (by decide) (by decide) (by decide)]
        refine ⟨(hbn.2 z hz).1, (hbn.2 z hz).2.1, ?_⟩
        show 0 ≤ hb_uf (G 11) t d z ∧ hb_uf (G 11) t d z ≤ 30000
        unfold hb_uf; have := (hbn.2 z hz).2.2; split <;> omega
    have hshH : bk_sh H H xs := by
      exact Or.inl rfl
    have h47 : ∀ z : Int, z = 17 ∨ z = 18 ∨ z = 26 → H 47 z = G 47 z := fun z hz => by
      show hb_uf (hb_uf (G 47) 0 0) 4 _ z = G 47 z
      unfold hb_uf; rw [if_neg (by omega), if_neg (by omega)]
    have hJH : bk_J H H F na n xs ob := bk_stat hJ hext hsb2 hsl2 (fun p hp => rr p (by omega) (by omega) (by omega) (by omega) (by omega) (by omega) (by omega) (by omega) (by omega) (by omega) (by omega)) h47 hZ
    exact ⟨1, _, H, 2, 2, by decide, by omega, by omega, h1, h2, H, n, xs, ob, hJH, hshH, hrH, hbnH⟩
  · exact ⟨0, G, _, 2, 2, by decide, by omega, by omega, c_thingN it ik im ic id hP hG, c_mThingN it ik im ic id (fun h => hP (by
      have x1 := (hsl.2.1 t (by omega)).1
      have y1 : G 51 t = -1 := h.2.1
      rw [w51, ← x1] at y1
      exact ⟨by omega, y1, by omega, h.2.2.2⟩)) hG, hI0⟩
theorem st_place {l : Launch} {k p c : Int} (ik : hb_in k) (ip : hb_in p) (ic : hb_in c) : hb_stQ l bk_I yX8_place cX8_place 5 (some .boolean) yX9_place cX9_place 4 (some .boolean) [hb_i k, hb_i p, hb_i c] := by
  intro G F na hI
  obtain ⟨D, n, xs, ob, hJ, hsh, hG, hbn⟩ := hI
  have hI0 := bk_I0 hJ hsh hG hbn
  have hw := hJ.1
  have hsl := hJ.2.2.1.2.1
  have hsb := hJ.2.2.1.1
  have w55 : G 55 = D 55 := hw 55 (by omega)
  have w51 : G 51 = D 51 := hw 51 (by omega)
  by_cases hP : (0 ≤ k ∧ k < 12) ∧ (0 ≤ p ∧ p < 4) ∧ (c = -1 ∨ (0 ≤ c ∧ c < 12)) ∧ G 6 4 ≤ 0
  · have h1 := c_placeY (l := l) (F := F) (na := na) ik ip ic hP hG
    have hG1 : hb_rg (hb_u2 G 2 (k * 4 + p) c) := by
      exact hG.u2 ic
    have h2 := c_mPlaceY (l := l) (F := F) (na := na) (G := hb_u2 G 2 (k * 4 + p) c) ik ip ic (by
      refine ⟨by omega, by omega, by omega, ?_⟩
      show G 47 4 ≤ 0
      rw [hJ.2.2.2.2.2.2]; exact hP.2.2.2) hG1
    let H : hb_G := hb_u2 (hb_u2 (hb_u2 G 2 (k * 4 + p) c) 47 0 0) 48 (4 * k + p) c
    have rr : ∀ y : Nat, y ≠ 47 → y ≠ 2 → y ≠ 48 → H y = G y := fun y a47 a2 a48 => by
      show hb_u2 (hb_u2 (hb_u2 G 2 (k * 4 + p) c) 47 0 0) 48 (4 * k + p) c y = _
      rw [hb_u2_n a48, hb_u2_n a47, hb_u2_n a2]
    have rd : ∀ y : Nat, 48 ≤ y ∧ y ≤ 69 → y ≠ 48 → H y = D y := fun y hy a48 => (rr y (by omega) (by omega) a48).trans (hw y hy)
    have r73 : H 73 = D 73 := (rr 73 (by decide) (by decide) (by decide)).trans hJ.2.1
    have z48 : ∀ z, H 48 z = hb_uf (D 48) (4 * k + p) c z := fun z => by rw [← hw 48 (by omega)]; rfl
    have hsb2 : bk_sb H := by
      unfold bk_sb
      rw [rd 49 (by omega) (by decide), rd 50 (by omega) (by decide), rd 51 (by omega) (by decide), rd 52 (by omega) (by decide), rd 53 (by omega) (by decide), rd 54 (by omega) (by decide), rd 55 (by omega) (by decide), rd 56 (by omega) (by decide), rd 57 (by omega) (by decide), rd 58 (by omega) (by decide), rd 61 (by omega) (by decide), rd 62 (by omega) (by decide)]
      refine ⟨fun z hz => ?_, hsb.2⟩
      rw [z48]; unfold hb_uf
      have := hsb.1 z hz
      split <;> omega
    have hsl2 : bk_sl H H := by
      obtain ⟨l1, l2, l3, l4, l5⟩ := hsl
      unfold bk_sl
      rw [rr 7 (by decide) (by decide) (by decide), rr 9 (by decide) (by decide) (by decide), rr 10 (by decide) (by decide) (by decide), rr 11 (by decide) (by decide) (by decide), rr 13 (by decide) (by decide) (by decide), rr 15 (by decide) (by decide) (by decide), rr 16 (by decide) (by decide) (by decide), rr 17 (by decide) (by decide) (by decide), rr 18 (by decide) (by decide) (by decide), rr 20 (by decide) (by decide) (by decide), rr 21 (by decide) (by decide) (by decide), rr 22 (by decide) (by decide) (by decide), rr 23 (by decide) (by decide) (by decide), rr 24 (by decide) (by decide) (by decide), rr 4 (by decide) (by decide) (by decide), rr 5 (by decide) (by decide) (by decide), rd 51 (by omega) (by decide), rd 52 (by omega) (by decide), rd 53 (by omega) (by decide), rd 54 (by omega) (by decide), rd 55 (by omega) (by decide), rd 56 (by omega) (by decide), rd 57 (by omega) (by decide), rd 58 (by omega) (by decide), rd 59 (by omega) (by decide), rd 60 (by omega) (by decide), rd 61 (by omega) (by decide), rd 62 (by omega) (by decide), rd 49 (by omega) (by decide), rd 50 (by omega) (by decide)]
      refine ⟨fun z hz => ?_, l2, l3, l4, l5⟩
      rw [z48]
      show hb_uf (G 2) (k * 4 + p) c z = _
      unfold hb_uf
      rw [l1 z hz, Int.mul_comm k 4]
    have hZ : bk_Z H := by
      exact hJ.2.2.2.2.2
    have hrH : hb_rg H := by
      exact (hG1.u2 (by decide)).u2 ic
    have hbnH : hb_bn H := by
      exact bk_bn_c (fun p hp => rr p (by omega) (by omega) (by omega)) hbn
    have hshH : bk_sh H H xs := by
      exact bk_sd.sh (fun p hp => by
        rcases hp with h | h | h
        · exact rd p (by omega) (by omega)
        · exact rd p (by omega) (by omega)
        · rw [h]; exact r73) (fun p hp => rr p (by omega) (by omega) (by omega)) hsh
    have h47 : ∀ z : Int, z = 17 ∨ z = 18 ∨ z = 26 → H 47 z = G 47 z := fun z hz => by
      show hb_uf (G 47) 0 0 z = G 47 z
      unfold hb_uf; rw [if_neg (by omega)]
    have hnt : ∀ t, 0 ≤ t ∧ t < 40 → D 51 t = -1 := fun t ht => by
      have h9 := bk_sz_0 (f := G 7) (n := 40) (by rw [← hJ.2.2.2.2.2.1]; exact hP.2.2.2) t.toNat (by omega)
      rw [Int.toNat_of_nonneg ht.1, (hsl.2.1 t ht).1] at h9
      exact h9
    obtain ⟨j1, j2, ⟨c1, c2, c3, c4, c5, c6, c7, c8, c9, c10⟩, ⟨n1, n2, n3, n4, n5, n6, n7, n8, n9, n10⟩, j5, j6⟩ := hJ
    have hn0 : n = 0 := Nat.eq_zero_of_not_pos fun hpos => by
      have hv := (n6 0 hpos).1.2.2.1
      exact hv.2 (hnt _ hv.1)
    have hx0 : xs = [] := by
      cases xs with
      | nil => rfl
      | cons e xs => have := ((n5 e).mp List.mem_cons_self).1; omega
    subst hn0
    subst hx0
    have hJH : bk_J H H F na 0 [] ob := ⟨fun _ _ => rfl, rfl, ⟨hsb2, hsl2, List.Pairwise.nil, fun e he => (nomatch he), Nat.zero_le _, trivial, fun a e b hab => (by cases a <;> cases hab), by rw [rr 25 (by decide) (by decide) (by decide)]; exact c8, fun e he => (nomatch he), fun j h => absurd h (Nat.not_lt_zero _)⟩, ⟨n1, (h47 17 (by omega)).trans n2, by rw [rr 25 (by decide) (by decide) (by decide)]; exact n3, (h47 18 (by omega)).trans n4, fun e => ⟨fun he => (nomatch he), fun he => absurd he.1 (Nat.not_lt_zero _)⟩, fun e he => absurd he (Nat.not_lt_zero _), fun e he => (nomatch he), fun e he => absurd he (Nat.not_lt_zero _), fun e he => (nomatch he), List.Pairwise.nil⟩, ⟨(h47 26 (by omega)).trans j5.1, fun j e he => (by simp at he)⟩, hZ⟩
    exact ⟨1, _, H, 1, 1, by decide, by omega, by omega, h1, h2, H, 0, [], ob, hJH, hshH, hrH, hbnH⟩
  · exact ⟨0, G, _, 1, 1, by decide, by omega, by omega, c_placeN ik ip ic hP hG, c_mPlaceN ik ip ic (by
      intro h
      refine hP ⟨by omega, by omega, by omega, ?_⟩
      have y1 : G 47 4 ≤ 0 := h.2.2.2
      rw [hJ.2.2.2.2.2.2] at y1; exact y1) hG, hI0⟩

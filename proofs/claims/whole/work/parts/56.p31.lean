/-! a new entry in the book -/
def bk_E (D : hb_G) (n : Nat) (w t p a b c : Int) : hb_G := hb_u2 (hb_u2 (hb_u2 (hb_u2 (hb_u2 (hb_u2 (hb_u2 D 63 n w) 64 n 1) 65 n t) 66 n p) 67 n a) 68 n b) 69 n c
theorem bk_E_ag {D : hb_G} {n : Nat} {w t p a b c : Int} : bk_ag D (bk_E D n w t p a b c) n := by
  refine ⟨fun q hq => ?_, fun q hq e he => ?_⟩
  · unfold bk_E
    rw [hb_u2_n (by omega), hb_u2_n (by omega), hb_u2_n (by omega), hb_u2_n (by omega), hb_u2_n (by omega), hb_u2_n (by omega), hb_u2_n (by omega)]
  · have hne : (e : Int) ≠ n := by omega
    rcases (show q = 63 ∨ q = 64 ∨ q = 65 ∨ q = 66 ∨ q = 67 ∨ q = 68 ∨ q = 69 by omega) with rfl | rfl | rfl | rfl | rfl | rfl | rfl
    · show hb_uf (D 63) n w e = _; unfold hb_uf; rw [if_neg hne]
    · show hb_uf (D 64) n 1 e = _; unfold hb_uf; rw [if_neg hne]
    · show hb_uf (D 65) n t e = _; unfold hb_uf; rw [if_neg hne]
    · show hb_uf (D 66) n p e = _; unfold hb_uf; rw [if_neg hne]
    · show hb_uf (D 67) n a e = _; unfold hb_uf; rw [if_neg hne]
    · show hb_uf (D 68) n b e = _; unfold hb_uf; rw [if_neg hne]
    · show hb_uf (D 69) n c e = _; unfold hb_uf; rw [if_neg hne]
theorem bk_E_at {D : hb_G} {n : Nat} {w t p a b c : Int} : bk_E D n w t p a b c 63 n = w ∧ bk_E D n w t p a b c 64 n = 1 ∧ bk_E D n w t p a b c 65 n = t ∧ bk_E D n w t p a b c 66 n = p ∧ bk_E D n w t p a b c 67 n = a ∧ bk_E D n w t p a b c 68 n = b ∧ bk_E D n w t p a b c 69 n = c := by
  have u : ∀ (g : Int → Int) (v : Int), hb_uf g n v n = v := fun g v => if_pos rfl
  exact ⟨u (D 63) w, u (D 64) 1, u (D 65) t, u (D 66) p, u (D 67) a, u (D 68) b, u (D 69) c⟩
theorem bk_dt_new {D E : hb_G} {n : Nat} {x1 x2 : List Nat} (hd : bk_dt D n (x1 ++ x2)) (hag : bk_ag D E n) (hn : n < 200) (h64 : E 64 n = 1) (hv : bk_vd E n) (h69 : 0 ≤ E 69 n) (h1 : ∀ f ∈ x1, bk_bf E f n) (h2 : ∀ f ∈ x2, bk_bf E n f) (hmv : (E 63 n = 1 ∨ E 63 n = 2) → ∀ f ∈ x1 ++ x2, (E 63 f = 1 ∨ E 63 f = 2) → E 66 f ≠ E 66 n) : bk_dt E (n + 1) (x1 ++ n :: x2) := by
  obtain ⟨b1, b2, b3, b4, b5, b6⟩ := hd
  have hlt : ∀ e ∈ x1 ++ x2, e < n := fun e he => ((b3 e).mp he).1
  have hme : ∀ e, e ∈ x1 ++ n :: x2 ↔ e = n ∨ e ∈ x1 ++ x2 := fun e => by
    simp only [List.mem_append, List.mem_cons]
    constructor
    · rintro (h | h | h)
      · exact Or.inr (Or.inl h)
      · exact Or.inl h
      · exact Or.inr (Or.inr h)
    · rintro (h | h | h)
      · exact Or.inr (Or.inl h)
      · exact Or.inl h
      · exact Or.inr (Or.inr h)
  have hpw := bk_spw (hag.pw hlt b2) h1 h2
  refine ⟨hag.sb b1, hpw, fun e => ?_, fun e he => ?_, by omega, ?_⟩
  · rw [hme, b3]
    constructor
    · rintro (h | h)
      · subst h; exact ⟨by omega, by omega⟩
      · exact ⟨by omega, by rw [hag.2 64 (by omega) e h.1]; exact h.2⟩
    · rintro ⟨ha, hb⟩
      by_cases h : e = n
      · exact Or.inl h
      · have : e < n := by omega
        exact Or.inr ⟨this, by rw [← hag.2 64 (by omega) e this]; exact hb⟩
  · by_cases h : e = n
    · subst h; exact ⟨hv, h69⟩
    · have : e < n := by omega
      exact ⟨hag.vd this (b4 e this).1, by rw [hag.2 69 (by omega) e this]; exact (b4 e this).2⟩
  · have hfm := hag.fm hlt
    have hl := hag.lt (xs := (x1 ++ x2).filter (bk_mb D)) (fun e he => hlt e (List.mem_filter.mp he).1) b6
    rw [← hfm, List.filter_append] at hl
    by_cases hm : E 63 n = 1 ∨ E 63 n = 2
    · rw [List.filter_append, List.filter_cons_of_pos (by simpa [bk_mb] using hm)]
      have hp := List.pairwise_append.mp hl
      have hne := hmv hm
      refine List.pairwise_append.mpr ⟨hp.1, List.pairwise_cons.mpr ⟨fun f hf => ?_, hp.2.1⟩, fun f hf g hg => ?_⟩
      · have h3 := List.mem_filter.mp hf
        have h4 := hne f (List.mem_append_right _ h3.1) (by simpa [bk_mb] using h3.2)
        have h5 := bk_bf_p (h2 f h3.1)
        unfold bk_lt; omega
      · have h3 := List.mem_filter.mp hf
        rcases List.mem_cons.mp hg with h9 | h9
        · subst h9
          have h4 := hne f (List.mem_append_left _ h3.1) (by simpa [bk_mb] using h3.2)
          have h5 := bk_bf_p (h1 f h3.1)
          unfold bk_lt; omega
        · exact hp.2.2 f hf g h9
    · rw [List.filter_append, List.filter_cons_of_neg (by simpa [bk_mb] using hm)]
      exact hl
theorem bk_LG_new {D E : hb_G} {n : Nat} {x1 x2 : List Nat} (hlt : ∀ e ∈ x1 ++ x2, e < n) (hag : bk_ag D E n) (hm : ¬ (E 63 n = 1 ∨ E 63 n = 2)) (hL : bk_LG D (x1 ++ x2).reverse) : bk_LG E (x1 ++ n :: x2).reverse := by
  have h1 := hag.LG (r := (x1 ++ x2).reverse) (fun e he => hlt e (List.mem_reverse.mp he)) hL
  rw [← bk_LG_f, List.filter_reverse] at h1 ⊢
  rw [List.filter_append, List.filter_cons_of_neg (by simpa [bk_mb] using hm), ← List.filter_append]
  exact h1
/-- flights count where they did: nothing flew, nothing moved -/
theorem bk_mi_new {D E : hb_G} {n : Nat} {x1 x2 : List Nat} (hlt : ∀ e ∈ x1 ++ x2, e < n) (hag : bk_ag D E n) (h73 : E 73 = D 73) (hm : 3 ≤ E 63 n) (hmi : bk_mi D (x1 ++ x2)) : bk_mi E (x1 ++ n :: x2) := by
  intro a e b hab h0 t ht
  have hen : e ≠ n := fun h => by subst h; omega
  have hnm : ¬ bk_mb E n = true := by simp [bk_mb]; omega
  -- the same place in the book without n
  have key : ∃ a' b', x1 ++ x2 = a' ++ e :: b' ∧ a.filter (bk_mb E) = a'.filter (bk_mb E) := by
    rcases List.append_eq_append_iff.mp hab with ⟨m, h1, h2⟩ | ⟨m, h1, h2⟩
    · cases m with
      | nil => cases h2; exact absurd rfl hen
      | cons z m =>
        have h3 := List.cons.inj h2
        refine ⟨x1 ++ m, b, by rw [h3.2]; simp, ?_⟩
        rw [h1, ← h3.1, List.filter_append, List.filter_append, List.filter_cons_of_neg hnm]
    · cases m with
      | nil => cases h2; exact absurd rfl hen
      | cons z m =>
        have h3 := List.cons.inj h2
        refine ⟨a, m ++ x2, by rw [h1, ← h3.1]; simp, rfl⟩
  obtain ⟨a', b', h4, h5⟩ := key
  have he : e < n := hlt e (by rw [h4]; simp)
  have ha' : ∀ f ∈ a'.reverse, f < n := fun f hf => hlt f (by rw [h4]; exact List.mem_append_left _ (List.mem_reverse.mp hf))
  have hTR : bk_TR E a.reverse = bk_TR D a'.reverse := by
    rw [← bk_TR_f, List.filter_reverse, h5, ← List.filter_reverse, bk_TR_f, hag.TR ha']
  rw [hTR, h73, hag.2 65 (by omega) e he]
  rw [hag.2 63 (by omega) e he] at h0
  exact hmi a' e b' h4 h0 t ht
/-- what the check has recorded -/
theorem bk_mi_rcd {E S : hb_G} {n : Nat} {xs : List Nat} (hd : bk_dt E n xs) (hr : bk_rcd E S n (xs.filter (bk_mb E)) 3000100) : bk_mi (hb_u1 E 73 (S 73)) xs := by
  obtain ⟨b1, b2, b3, b4, b5, b6⟩ := hd
  intro a e b hab h0 t ht
  subst hab
  have h0 : E 63 e = 0 := h0
  have hmem := (b3 e).mp (List.mem_append_right _ List.mem_cons_self)
  have hag : bk_ag E (hb_u1 E 73 (S 73)) n := ⟨fun p hp => hb_u1_n (by omega), fun p hp f hf => by rw [hb_u1_n (by omega)]⟩
  have hva : ∀ f ∈ a.reverse, f < n := fun f hf => ((b3 f).mp (List.mem_append_left _ (List.mem_reverse.mp hf))).1
  rw [hag.TR hva]
  have hnm : ¬ bk_mb E e = true := by simp [bk_mb]; omega
  have hc : (a ++ e :: b).filter (bk_mb E) = a.filter (bk_mb E) ++ b.filter (bk_mb E) := by
    rw [List.filter_append, List.filter_cons_of_neg hnm]
  have hpf : bk_pf E (E 66 e) (a.filter (bk_mb E)) (b.filter (bk_mb E)) := by
    constructor
    · intro f hf; exact bk_bf_p ((bk_sp b2).1 f (List.mem_filter.mp hf).1)
    · intro f hf
      have h1 := (bk_sp b2).2 f (List.mem_filter.mp hf).1
      have h3 : bk_rk E f = 0 := bk_rk_m (by simpa [bk_mb] using (List.mem_filter.mp hf).2)
      have h4 := bk_rk_f h0
      unfold bk_bf at h1
      omega
  have hp := (b4 e hmem.1).1.2.2.2.1
  have h := hr e hmem.1 hmem.2 h0 (by omega) _ _ hc hpf t ht
  rw [← List.filter_reverse, bk_TR_f] at h
  exact h
theorem bk_73 {E : hb_G} {g : Int → Int} {n : Nat} : bk_ag E (hb_u1 E 73 g) n := ⟨fun p hp => hb_u1_n (by omega), fun p hp f hf => by rw [hb_u1_n (by omega)]⟩
theorem bk_dt_73 {E : hb_G} {g : Int → Int} {n : Nat} {xs : List Nat} (h : bk_dt E n xs) : bk_dt (hb_u1 E 73 g) n xs := by
  obtain ⟨b1, b2, b3, b4, b5, b6⟩ := h
  have hag : bk_ag E (hb_u1 E 73 g) n := bk_73
  have hlt : ∀ e ∈ xs, e < n := fun e he => ((b3 e).mp he).1
  refine ⟨hag.sb b1, hag.pw hlt b2, b3, fun e he => ⟨hag.vd he (b4 e he).1, (b4 e he).2⟩, b5, ?_⟩
  rw [hag.fm hlt]
  exact hag.lt (fun e he => hlt e (List.mem_filter.mp he).1) b6
/-! the class enters it -/
theorem bk_add {l : Launch} {D E G : hb_G} {F : hb_F} {na n : Nat} {xs : List Nat} {ob : Nat → Nat} {row : Int → Int} (hcl : bk_cl D G F na n xs ob) (hd : bk_dt D n xs) (hn : n < 200) (hag : bk_ag D E n) (hv : bk_vd E n) (hG : hb_rg G) (hrow : ∀ i, hb_in (row i)) (hobj : bk_obj E (hb_u2 (hb_u1 G (77 + na) row) (77 + na) 3 n) n (77 + na)) (hpt : row 2 = E 66 n) (hso : row 0 = bk_srt (E 63 n)) : ∃ x1 x2, xs = x1 ++ x2 ∧ (∀ f ∈ x1, bk_bf E f n) ∧ (∀ f ∈ x2, bk_bf E n f) ∧
    ((¬ (E 63 n = 1 ∨ E 63 n = 2) ∨ ((E 63 n = 1 ∨ E 63 n = 2) ∧ (¬ ∃ f, f ∈ xs ∧ E 66 f = E 66 n ∧ (E 63 f = 1 ∨ E 63 f = 2)) ∧ bk_LG E (x1 ++ n :: x2).reverse)) → ∃ (G1 : hb_G) (F1 : hb_F), hb_M l yX0_add cX0_add 2 (some .int) 4 0 0 [hb_r 25, hb_r (77 + na)] (hb_w (hb_u1 G (77 + na) row) F (na + 1)) (77 + (na + 1)) (.inl (some (hb_i n))) (hb_w G1 F1 (na + 1)) (77 + (na + 1)) ∧ bk_cl E G1 F1 (na + 1) (n + 1) (x1 ++ n :: x2) (fun e => if e = n then na else ob e) ∧ (∀ p : Nat, p ≠ 25 → p ≠ 29 → p ≠ 30 → p ≠ 31 → p ≠ 77 + na → G1 p = G p) ∧ hb_rg G1) ∧
    (((E 63 n = 1 ∨ E 63 n = 2) ∧ ((∃ f, f ∈ xs ∧ E 66 f = E 66 n ∧ (E 63 f = 1 ∨ E 63 f = 2)) ∨ ¬ bk_LG E (x1 ++ n :: x2).reverse)) → ∃ (G1 : hb_G) (F1 : hb_F), hb_M l yX0_add cX0_add 2 (some .int) 4 0 0 [hb_r 25, hb_r (77 + na)] (hb_w (hb_u1 G (77 + na) row) F (na + 1)) (77 + (na + 1)) (.inl (some (hb_i (-1)))) (hb_w G1 F1 (na + 1)) (77 + (na + 1)) ∧ bk_cl D G1 F1 (na + 1) n xs ob ∧ (∀ p : Nat, p ≠ 25 → p ≠ 29 → p ≠ 30 → p ≠ 31 → p ≠ 77 + na → G1 p = G p) ∧ hb_rg G1) := by
  obtain ⟨a1, a2, a3, a4, a5, a6, a7, a8, a9⟩ := hcl
  obtain ⟨b1, b2, b3, b4, b5, b6⟩ := hd
  have hlt : ∀ e ∈ xs, e < n := fun e he => ((b3 e).mp he).1
  have hnx : n ∉ xs := fun h => by have := hlt n h; omega
  have hlen : xs.length ≤ n := bk_nd_len (bk_nd b2) hlt
  obtain ⟨x1, x2, hx, h1, h2⟩ := bk_spl (hag.pw hlt b2) hnx
  refine ⟨x1, x2, hx, h1, h2, ?_⟩
  let ob' : Nat → Nat := fun e => if e = n then na else ob e
  have hobn : ob' n = na := if_pos rfl
  have hobe : ∀ e ∈ xs, ob' e = ob e := fun e he => if_neg (fun h : e = n => hnx (h ▸ he))
  let Gn : hb_G := hb_u1 G (77 + na) row
  let Gm : hb_G := hb_u2 Gn (77 + na) 3 n
  have rGn : ∀ p : Nat, p ≠ 77 + na → Gn p = G p := fun p hp => hb_u1_n hp
  have rGm : ∀ p : Nat, p ≠ 77 + na → Gm p = G p := fun p hp => by show hb_u2 Gn (77 + na) 3 n p = _; rw [hb_u2_n hp]; exact rGn p hp
  have hGn : hb_rg Gn := fun p i => by
    by_cases h : p = 77 + na
    · subst h; show hb_in (hb_u1 G (77 + na) row (77 + na) i); rw [hb_u1_s]; exact hrow i
    · rw [rGn p h]; exact hG _ _
  have hGm : hb_rg Gm := hGn.u2 (by constructor <;> omega)
  have hslE : ∀ H : hb_G, (∀ p : Nat, p ≠ 25 → p ≠ 29 → p ≠ 30 → p ≠ 31 → p ≠ 77 + na → H p = G p) → bk_sl E H := fun H hH => by
    have h9 := hag.sl a1
    unfold bk_sl
    rw [hH 2 (by decide) (by decide) (by decide) (by decide) (by omega), hH 7 (by decide) (by decide) (by decide) (by decide) (by omega), hH 9 (by decide) (by decide) (by decide) (by decide) (by omega), hH 10 (by decide) (by decide) (by decide) (by decide) (by omega), hH 11 (by decide) (by decide) (by decide) (by decide) (by omega), hH 13 (by decide) (by decide) (by decide) (by decide) (by omega), hH 15 (by decide) (by decide) (by decide) (by decide) (by omega), hH 16 (by decide) (by decide) (by decide) (by decide) (by omega), hH 17 (by decide) (by decide) (by decide) (by decide) (by omega), hH 18 (by decide) (by decide) (by decide) (by decide) (by omega), hH 20 (by decide) (by decide) (by decide) (by decide) (by omega), hH 21 (by decide) (by decide) (by decide) (by decide) (by omega), hH 22 (by decide) (by decide) (by decide) (by decide) (by omega), hH 23 (by decide) (by decide) (by decide) (by decide) (by omega), hH 24 (by decide) (by decide) (by decide) (by decide) (by omega), hH 4 (by decide) (by decide) (by decide) (by decide) (by omega), hH 5 (by decide) (by decide) (by decide) (by decide) (by omega)]
    exact h9
  have htn : bk_tm E Gn F (na + 1) xs ob' := by
    refine ⟨by omega, by rw [rGn 25 (by omega)]; exact a3, fun e he => ?_, fun j e he => ?_⟩
    · rw [hobe e he]
      exact ⟨by have := (a4 e he).1; omega, hag.obj (hlt e he) (rGn _ (by have := (a4 e he).1; omega)) (a4 e he).2⟩
    · have hj := (List.getElem?_eq_some_iff.mp he)
      rw [hobe e (List.mem_of_getElem? he), a5 j hj.1, hj.2]
  have htm : bk_tm E Gm F (na + 1) (x1 ++ x2) ob' := by
    rw [← hx]
    refine ⟨htn.1, by rw [rGm 25 (by omega)]; exact a3, fun e he => ?_, htn.2.2.2⟩
    rw [hobe e he]
    exact ⟨by have := (a4 e he).1; omega, hag.obj (hlt e he) (rGm _ (by have := (a4 e he).1; omega)) (a4 e he).2⟩
  have hv2 : ∀ e ∈ xs, bk_vd E e := fun e he => hag.vd (hlt e he) (b4 e (hlt e he)).1
  have hvx : ∀ e ∈ x1 ++ n :: x2, bk_vd E e := fun e he => by
    rcases List.mem_append.mp he with h | h
    · exact hv2 e (by rw [hx]; exact List.mem_append_left _ h)
    · rcases List.mem_cons.mp h with h | h
      · rw [h]; exact hv
      · exact hv2 e (by rw [hx]; exact List.mem_append_right _ h)
  obtain ⟨F', hI, hT, hF26⟩ := bk_ins (l := l) (o := na) (n := n) (ob := ob') htm (by rw [← hx]; omega) (by omega) hobj hobn h1 h2 hGm
  let Gi : hb_G := hb_u2 Gm 25 4 (Gm 25 4 + 1)
  have hGi : hb_rg Gi := hGm.u2 (by rw [rGm 25 (by omega), a3]; constructor <;> omega)
  have r0 : Gn (77 + na) 0 = row 0 := by show hb_u1 G (77 + na) row (77 + na) 0 = _; rw [hb_u1_s]
  have r2 : Gn (77 + na) 2 = row 2 := by show hb_u1 G (77 + na) row (77 + na) 2 = _; rw [hb_u1_s]
  have i0 : Gi (77 + na) 0 = row 0 := by
    show hb_u2 Gm 25 4 _ (77 + na) 0 = _
    rw [hb_u2_n (by omega)]
    show hb_u2 Gn (77 + na) 3 n (77 + na) 0 = _
    rw [hb_u2_i (by decide)]; exact r0
  have i3 : Gi (77 + na) 3 = n := by
    show hb_u2 Gm 25 4 _ (77 + na) 3 = _
    rw [hb_u2_n (by omega)]
    exact hb_u2_s
  have i25 : Gi 25 3 = n := by
    show hb_u2 Gm 25 4 _ 25 3 = _
    rw [hb_u2_i (by decide), rGm 25 (by omega)]; exact a2
  have hmvr : (row 0 = 0 ∨ row 0 = 1) ↔ (E 63 n = 1 ∨ E 63 n = 2) := by
    have := bk_mvo hobj hv.1.1
    rw [hb_u2_i (by decide), show hb_u1 G (77 + na) row (77 + na) 0 = row 0 from r0] at this
    exact this
  have g25 : Gn 25 3 = n := by rw [rGn 25 (by omega)]; exact a2
  have hm : 0 ≤ Gn 25 3 ∧ Gn 25 3 < 200 := by rw [g25]; omega
  have hIi : hb_M l yX0_insert cX0_insert 3 none 3 0 0 [hb_r 25, hb_r (77 + na)] (hb_w (hb_u2 Gn (77 + na) 3 (Gn 25 3)) F (na + 1)) (77 + (na + 1)) (.inl none) (hb_w Gi F' (na + 1)) (77 + (na + 1)) := by rw [g25]; exact hI
  -- the rows after acceptance
  have fin : ∀ H : hb_G, (∀ p : Nat, p ≠ 29 → p ≠ 30 → p ≠ 31 → H p = Gi p) → hb_rg H → bk_cl E (hb_u2 H 25 3 (H 25 3 + 1)) (hb_v2 F' 26 (H 25 3) (some (77 + na))) (na + 1) (n + 1) (x1 ++ n :: x2) ob' ∧ (∀ p : Nat, p ≠ 25 → p ≠ 29 → p ≠ 30 → p ≠ 31 → p ≠ 77 + na → hb_u2 H 25 3 (H 25 3 + 1) p = G p) ∧ hb_rg (hb_u2 H 25 3 (H 25 3 + 1)) := by
    intro H hH hR
    have h25 : H 25 3 = n := by rw [hH 25 (by decide) (by decide) (by decide)]; exact i25
    have hrow9 : ∀ p : Nat, p ≠ 25 → p ≠ 29 → p ≠ 30 → p ≠ 31 → p ≠ 77 + na → hb_u2 H 25 3 (H 25 3 + 1) p = G p := fun p q1 q2 q3 q4 q5 => by
      rw [hb_u2_n q1, hH p q2 q3 q4]
      show hb_u2 Gm 25 4 _ p = _
      rw [hb_u2_n q1]; exact rGm p q5
    have ho9 : ∀ q : Nat, hb_u2 H 25 3 (H 25 3 + 1) (77 + q) = Gi (77 + q) := fun q => by rw [hb_u2_n (by omega), hH _ (by omega) (by omega) (by omega)]
    refine ⟨⟨hslE _ hrow9, by rw [hb_u2_s, h25]; omega, ?_, fun e he => ⟨(hT.2.2.1 e he).1, ?_⟩, fun j hj => ?_, fun e he => ?_, fun e he hne => ?_, fun e he f hf h => ?_, ?_⟩, hrow9, hR.u2 (by rw [h25]; constructor <;> omega)⟩
    · rw [hb_u2_i (by decide), hH 25 (by decide) (by decide) (by decide)]; exact hT.2.1
    · unfold bk_obj; rw [ho9]; exact (hT.2.2.1 e he).2
    · show hb_v2 F' 26 _ _ 27 j = _
      exact hT.2.2.2 j _ (List.getElem?_eq_getElem hj)
    · show hb_uf (F' 26) (H 25 3) (some (77 + na)) e = _
      unfold hb_uf
      rw [h25, hF26]
      by_cases h : e = n
      · subst h; rw [if_pos rfl, hobn]
      · rw [if_neg (by omega)]
        have hex : e ∈ xs := by
          rw [hx]
          rcases List.mem_append.mp he with h9 | h9
          · exact List.mem_append_left _ h9
          · exact List.mem_append_right _ ((List.mem_cons.mp h9).elim (fun h8 => absurd h8 h) id)
        rw [hobe e hex]; exact a6 e hex
    · show hb_uf (F' 26) (H 25 3) (some (77 + na)) e = _
      unfold hb_uf
      rw [h25, hF26]
      have h : e ≠ n := fun h => hne (h ▸ List.mem_append_right _ List.mem_cons_self)
      rw [if_neg (by omega)]
      refine a7 e (by omega) (fun hex => hne ?_)
      rw [hx] at hex
      rcases List.mem_append.mp hex with h9 | h9
      · exact List.mem_append_left _ h9
      · exact List.mem_append_right _ (List.mem_cons_of_mem _ h9)
    · have back : ∀ z ∈ x1 ++ n :: x2, z = n ∨ z ∈ xs := fun z hz => by
        rw [hx]
        rcases List.mem_append.mp hz with h9 | h9
        · exact Or.inr (List.mem_append_left _ h9)
        · exact (List.mem_cons.mp h9).elim Or.inl (fun h8 => Or.inr (List.mem_append_right _ h8))
      rcases back e he with h9 | h9 <;> rcases back f hf with h8 | h8
      · rw [h9, h8]
      · rw [h9, hobn, hobe f h8] at h; have := (a4 f h8).1; omega
      · rw [h8, hobn, hobe e h9] at h; have := (a4 e h9).1; omega
      · rw [hobe e h9, hobe f h8] at h; exact a8 e h9 f h8 h
    · rw [hrow9 6 (by decide) (by decide) (by decide) (by decide) (by omega), hrow9 7 (by decide) (by decide) (by decide) (by decide) (by omega)]; exact a9
  have hpti : hb_in (row 2) := hrow 2
  have hH1 := bk_hma (l := l) htn hv2 hGn (pt := row 2) hpti
  rw [hpt] at hH1
  have hH2 : hb_M l yX0_hasMoveAt cX0_hasMoveAt 3 (some .boolean) 1 0 0 [hb_r 25, hb_i (Gn (77 + na) 2)] (hb_w Gn F (na + 1)) (77 + (na + 1)) (.inl (some (hb_i (hb_b (∃ e, e ∈ xs ∧ E 66 e = E 66 n ∧ (E 63 e = 1 ∨ E 63 e = 2)))))) (hb_w Gn F (na + 1)) (77 + (na + 1)) := by rw [r2, hpt]; exact hH1
  have hslGi : bk_sl E Gi := hslE Gi (fun p q1 q2 q3 q4 q5 => by show hb_u2 Gm 25 4 _ p = _; rw [hb_u2_n q1]; exact rGm p q5)
  have hP := bk_poss (l := l) (hag.sb b1) hslGi hT hvx hGi
  constructor
  · rintro (hnm | ⟨hmv, hno, hL⟩)
    · have h := c_addPlain (l := l) (F := F) (G := Gn) (G2 := Gi) (F1 := F') (e := na) (na := na + 1) (by omega) hm (by rw [r0]; exact fun h => hnm (hmvr.mp h)) hIi hGi (by rw [i0]; exact fun h => hnm (hmvr.mp h)) (by rw [i25, g25]) (by rw [i3, g25]) hGn
      rw [g25] at h
      obtain ⟨q1, q2, q3⟩ := fin Gi (fun _ _ _ _ => rfl) hGi
      exact ⟨_, _, h, q1, q2, q3⟩
    · obtain ⟨H, p1, p2, p3⟩ := hP.1 hL
      rw [hb_bf hno] at hH2
      have h3 : H (77 + na) = Gi (77 + na) := p2 _ (by omega) (by omega) (by omega)
      have h := c_addMove (l := l) (F := F) (G := Gn) (G2 := Gi) (G3 := H) (F1 := F') (e := na) (na := na + 1) (by omega) hm (by rw [r0]; exact hmvr.mpr hmv) hH2 hIi hGi (by rw [i0]; exact hmvr.mpr hmv) p1 (by rw [p2 25 (by decide) (by decide) (by decide), i25, g25]) (by rw [h3, i3, g25]) hGn
      rw [g25] at h
      obtain ⟨q1, q2, q3⟩ := fin H p2 p3
      exact ⟨_, _, h, q1, q2, q3⟩
  · rintro ⟨hmv, hor⟩
    by_cases hex : ∃ e, e ∈ xs ∧ E 66 e = E 66 n ∧ (E 63 e = 1 ∨ E 63 e = 2)
    · rw [hb_bt hex] at hH2
      have h := c_addTwice (l := l) (F := F) (G := Gn) (e := na) (na := na + 1) (by omega) hm (by rw [r0]; exact hmvr.mpr hmv) hH2 hGn
      refine ⟨Gn, F, h, ⟨?_, g25, by rw [rGn 25 (by omega)]; exact a3, fun e he => ⟨by have := (a4 e he).1; omega, ?_⟩, a5, a6, a7, a8, by rw [rGn 6 (by omega), rGn 7 (by omega)]; exact a9⟩, fun p _ _ _ _ q => rGn p q, hGn⟩
      · have := hslE Gn (fun p _ _ _ _ q => rGn p q)
        exact hag.sy.sl this
      · unfold bk_obj; rw [rGn _ (by have := (a4 e he).1; omega)]; exact (a4 e he).2
    · have hL : ¬ bk_LG E (x1 ++ n :: x2).reverse := hor.elim (fun h => absurd h hex) id
      obtain ⟨H, p1, p2, p3⟩ := hP.2 hL
      rw [hb_bf hex] at hH2
      have hTH : bk_tm E H F' (na + 1) (x1 ++ n :: x2) ob' := ⟨hT.1, by rw [p2 25 (by decide) (by decide) (by decide)]; exact hT.2.1, fun e he => ⟨(hT.2.2.1 e he).1, by unfold bk_obj; rw [p2 _ (by omega) (by omega) (by omega)]; exact (hT.2.2.1 e he).2⟩, hT.2.2.2⟩
      obtain ⟨F2, v1, v2, v3⟩ := bk_rem (l := l) (n := n) hTH (fun e he => by rw [hobn, hobe e (by rw [hx]; exact he)]; have := (a4 e (by rw [hx]; exact he)).1; omega) p3
      rw [hobn] at v1
      have h := c_addNot (l := l) (F := F) (G := Gn) (G2 := Gi) (G3 := H) (G4 := hb_u2 H 25 4 (H 25 4 - 1)) (F1 := F') (F2 := F2) (e := na) (na := na + 1) (by omega) hm (by rw [r0]; exact hmvr.mpr hmv) hH2 hIi hGi (by rw [i0]; exact hmvr.mpr hmv) p1 v1 hGn
      have hrow9 : ∀ p : Nat, p ≠ 25 → p ≠ 29 → p ≠ 30 → p ≠ 31 → p ≠ 77 + na → hb_u2 H 25 4 (H 25 4 - 1) p = G p := fun p q1 q2 q3 q4 q5 => by
        rw [hb_u2_n q1, p2 p q2 q3 q4]
        show hb_u2 Gm 25 4 _ p = _
        rw [hb_u2_n q1]; exact rGm p q5
      refine ⟨_, F2, h, ⟨hag.sy.sl (hslE _ hrow9), ?_, ?_, fun e he => ⟨by have := (a4 e he).1; omega, ?_⟩, fun j hj => ?_, fun e he => by rw [v3, hF26]; exact a6 e he, fun e he hne => by rw [v3, hF26]; exact a7 e he hne, a8, ?_⟩, hrow9, p3.u2 ?_⟩
      · rw [hb_u2_i (by decide), p2 25 (by decide) (by decide) (by decide)]; exact i25
      · rw [v2.2.1, hx]
      · unfold bk_obj; rw [hrow9 _ (by omega) (by omega) (by omega) (by omega) (by have := (a4 e he).1; omega)]; exact (a4 e he).2
      · have := v2.2.2.2 j (xs[j]) (by rw [← hx]; exact List.getElem?_eq_getElem hj)
        rw [hobe _ (List.getElem_mem hj)] at this
        exact this
      · rw [hrow9 6 (by decide) (by decide) (by decide) (by decide) (by omega), hrow9 7 (by decide) (by decide) (by decide) (by decide) (by omega)]; exact a9
      · rw [p2 25 (by decide) (by decide) (by decide)]
        show hb_in (hb_u2 Gm 25 4 _ 25 4 - 1)
        rw [hb_u2_s, rGm 25 (by omega), a3]; constructor <;> omega
theorem bk_ag.dt {D E : hb_G} {n : Nat} (h : bk_ag D E n) {xs : List Nat} (hd : bk_dt D n xs) : bk_dt E n xs := by
  obtain ⟨b1, b2, b3, b4, b5, b6⟩ := hd
  have hlt : ∀ e ∈ xs, e < n := fun e he => ((b3 e).mp he).1
  refine ⟨h.sb b1, h.pw hlt b2, fun e => ?_, fun e he => ⟨h.vd he (b4 e he).1, by rw [h.2 69 (by omega) e he]; exact (b4 e he).2⟩, b5, by rw [h.fm hlt]; exact h.lt (fun e he => hlt e (List.mem_filter.mp he).1) b6⟩
  rw [b3]
  constructor
  · rintro ⟨h1, h2⟩; exact ⟨h1, by rw [h.2 64 (by omega) e h1]; exact h2⟩
  · rintro ⟨h1, h2⟩; exact ⟨h1, by rw [← h.2 64 (by omega) e h1]; exact h2⟩
theorem bk_hs_mi {D E : hb_G} {n : Nat} (h : bk_ag D E n) {xs : List Nat} (hlt : ∀ e ∈ xs, e < n) (m1 : bk_mi D xs) (m2 : bk_mi E xs) : bk_hs D E xs := by
  intro e he h0 t ht
  obtain ⟨a, b, hab⟩ := List.append_of_mem he
  have hen := hlt e he
  have h1 := m1 a e b hab h0 t ht
  have h2 := m2 a e b hab (by rw [h.2 63 (by omega) e hen]; exact h0) t ht
  rw [h1, h2, h.TR (fun f hf => hlt f (by rw [hab]; exact List.mem_append_left _ (List.mem_reverse.mp hf))), h.2 65 (by omega) e hen]
/-- the class's rows do not change -/
theorem bk_cl.k {E G H : hb_G} {F : hb_F} {na n : Nat} {xs : List Nat} {ob : Nat → Nat} (h : bk_cl E G F na n xs ob) (hk : ∀ p : Nat, p ≤ 25 ∨ 77 ≤ p → H p = G p) : bk_cl E H F na n xs ob := by
  obtain ⟨a1, a2, a3, a4, a5, a6, a7, a8, a9⟩ := h
  refine ⟨?_, by rw [hk 25 (by omega)]; exact a2, by rw [hk 25 (by omega)]; exact a3, fun e he => ⟨(a4 e he).1, by unfold bk_obj; rw [hk _ (by omega)]; exact (a4 e he).2⟩, a5, a6, a7, a8, by rw [hk 6 (by omega), hk 7 (by omega)]; exact a9⟩
  unfold bk_sl
  rw [hk 2 (by omega), hk 7 (by omega), hk 9 (by omega), hk 10 (by omega), hk 11 (by omega), hk 13 (by omega), hk 15 (by omega), hk 16 (by omega), hk 17 (by omega), hk 18 (by omega), hk 20 (by omega), hk 21 (by omega), hk 22 (by omega), hk 23 (by omega), hk 24 (by omega), hk 4 (by omega), hk 5 (by omega)]
  exact a1
theorem bk_cl.ag {D E G : hb_G} {F : hb_F} {na n : Nat} {xs : List Nat} {ob : Nat → Nat} (h : bk_cl D G F na n xs ob) (hag : bk_ag D E n) (hlt : ∀ e ∈ xs, e < n) : bk_cl E G F na n xs ob := by
  obtain ⟨a1, a2, a3, a4, a5, a6, a7, a8, a9⟩ := h
  exact ⟨hag.sl a1, a2, a3, fun e he => ⟨(a4 e he).1, hag.obj (hlt e he) rfl (a4 e he).2⟩, a5, a6, a7, a8, a9⟩
/-- the check goes through -/
theorem bk_ck {l : Launch} {E Y : hb_G} {F : hb_F} {na n : Nat} {xs : List Nat} (hd : bk_dt E n xs) (hrw : bk_rw E Y) (hY : hb_rg Y) (h17 : Y 47 17 = n) (h18 : Y 47 18 = xs.length) (h4 : Y 47 4 = Y 6 4) :
    (bk_LG E xs.reverse → ∃ H, hb_M l yX9_check cX9_check 3 (some .boolean) 5 0 0 [hb_r 47] (hb_w Y F na) (77 + na) (.inl (some (hb_i 1))) (hb_w H F na) (77 + na) ∧ bk_kk Y H ∧ hb_rg H ∧ bk_rf (hb_u1 E 73 (H 73)) H n xs ∧ bk_mi (hb_u1 E 73 (H 73)) xs) ∧
    (¬ bk_LG E xs.reverse → ∃ H, hb_M l yX9_check cX9_check 3 (some .boolean) 5 0 0 [hb_r 47] (hb_w Y F na) (77 + na) (.inl (some (hb_i 0))) (hb_w H F na) (77 + na) ∧ bk_kk Y H ∧ hb_rg H) := by
  have hd9 := hd
  obtain ⟨b1, b2, b3, b4, b5, b6⟩ := hd
  have hlt : ∀ e ∈ xs, e < n := fun e he => ((b3 e).mp he).1
  have hm : ∀ e, e ∈ xs.filter (bk_mb E) ↔ e < n ∧ E 64 e ≠ 0 ∧ (E 63 e = 1 ∨ E 63 e = 2) := fun e => by
    rw [List.mem_filter, b3]
    constructor
    · rintro ⟨⟨h1, h2⟩, h3⟩; exact ⟨h1, h2, by simpa [bk_mb] using h3⟩
    · rintro ⟨h1, h2, h3⟩; exact ⟨⟨h1, h2⟩, by simpa [bk_mb] using h3⟩
  have hC := bk_check (l := l) (F := F) (na := na) b1 hrw hY b5 h17 (fun e he => (b4 e he).1) b6 hm
  have hiff : bk_LG E (xs.filter (bk_mb E)).reverse ↔ bk_LG E xs.reverse := by rw [← List.filter_reverse, bk_LG_f]
  constructor
  · intro hL
    obtain ⟨H, h1, h2, h3, h5, h6⟩ := hC.1 (hiff.mpr hL)
    have hfm : xs.filter (bk_mb (hb_u1 E 73 (H 73))) = xs.filter (bk_mb E) := (bk_73 (n := n)).fm hlt
    refine ⟨H, h1, h2, h3, ⟨fun p hp => ?_, rfl, (h2.2 17 (by decide)).trans h17, (h2.2 18 (by decide)).trans h18, ⟨by rw [hfm]; exact h5.1, fun j e he => by rw [hfm] at he; exact h5.2 j e he⟩, ?_⟩, bk_mi_rcd hd9 h6⟩
    · rw [hb_u1_n (by omega), h2.1 p (by omega) (by omega) (by omega) (by omega) (by omega)]; exact hrw p hp
    · rw [h2.2 4 (by decide), h2.1 6 (by decide) (by decide) (by decide) (by decide) (by decide)]; exact h4
  · intro hL
    exact hC.2 (fun h => hL (hiff.mp h))
theorem bk_rf.kz {E G H : hb_G} {n : Nat} {xs : List Nat} (h : bk_rf E G n xs) (hk : ∀ p : Nat, (48 ≤ p ∧ p ≤ 70) ∨ p = 73 ∨ p = 6 → H p = G p) (h47 : ∀ i : Int, i ≠ 0 → H 47 i = G 47 i) : bk_rf E H n xs := by
  obtain ⟨c1, c2, c3, c4, c5, c6⟩ := h
  exact ⟨fun p hp => (hk p (by omega)).trans (c1 p hp), (hk 73 (by omega)).trans c2, (h47 17 (by decide)).trans c3, (h47 18 (by decide)).trans c4, ⟨(h47 26 (by decide)).trans c5.1, fun j e he => by rw [hk 70 (by omega)]; exact c5.2 j e he⟩, by rw [h47 4 (by decide), hk 6 (by omega)]; exact c6⟩
/-- the rows that the reference writes when it enters -/
theorem bk_je {X D : hb_G} {n : Nat} {w t p a b c : Int} (hrw : bk_rw D X) (h17 : X 47 17 = n) : bk_rw (bk_E D n w t p a b c) (hb_je (hb_u2 X 47 0 0) w t p a b c) ∧ hb_je (hb_u2 X 47 0 0) w t p a b c 47 17 = n + 1 ∧ hb_je (hb_u2 X 47 0 0) w t p a b c 47 18 = X 47 18 + 1 ∧ (∀ i : Int, i ≠ 0 → i ≠ 17 → i ≠ 18 → hb_je (hb_u2 X 47 0 0) w t p a b c 47 i = X 47 i) ∧ hb_je (hb_u2 X 47 0 0) w t p a b c 47 0 = 0 ∧ (∀ q : Nat, ¬ (63 ≤ q ∧ q ≤ 69) → q ≠ 47 → hb_je (hb_u2 X 47 0 0) w t p a b c q = X q) := by
  have e17 : hb_u2 X 47 0 0 47 17 = n := by rw [hb_u2_i (by decide)]; exact h17
  have e18 : hb_u2 X 47 0 0 47 18 = X 47 18 := hb_u2_i (by decide)
  have hoth : ∀ q : Nat, ¬ (63 ≤ q ∧ q ≤ 69) → q ≠ 47 → hb_je (hb_u2 X 47 0 0) w t p a b c q = X q := fun q h1 h2 => by
    unfold hb_je
    rw [hb_u2_n h2, hb_u2_n h2, hb_u2_n (by omega), hb_u2_n (by omega), hb_u2_n (by omega), hb_u2_n (by omega), hb_u2_n (by omega), hb_u2_n (by omega), hb_u2_n (by omega), hb_u2_n h2]
  have r47 : hb_je (hb_u2 X 47 0 0) w t p a b c 47 = hb_uf (hb_uf (hb_uf (X 47) 0 0) 17 (hb_u2 X 47 0 0 47 17 + 1)) 18 (hb_u2 X 47 0 0 47 18 + 1) := rfl
  refine ⟨fun q hq => ?_, ?_, ?_, fun i h0 h1 h2 => ?_, ?_, hoth⟩
  · by_cases h : 63 ≤ q ∧ q ≤ 69
    · unfold hb_je
      rw [e17]
      rcases (show q = 63 ∨ q = 64 ∨ q = 65 ∨ q = 66 ∨ q = 67 ∨ q = 68 ∨ q = 69 by omega) with rfl | rfl | rfl | rfl | rfl | rfl | rfl
      · show hb_uf (X 63) n w = hb_uf (D 63) n w; rw [hrw 63 (by omega)]
      · show hb_uf (X 64) n 1 = hb_uf (D 64) n 1; rw [hrw 64 (by omega)]
      · show hb_uf (X 65) n t = hb_uf (D 65) n t; rw [hrw 65 (by omega)]
      · show hb_uf (X 66) n p = hb_uf (D 66) n p; rw [hrw 66 (by omega)]
      · show hb_uf (X 67) n a = hb_uf (D 67) n a; rw [hrw 67 (by omega)]
      · show hb_uf (X 68) n b = hb_uf (D 68) n b; rw [hrw 68 (by omega)]
      · show hb_uf (X 69) n c = hb_uf (D 69) n c; rw [hrw 69 (by omega)]
    · rw [hoth q h (by omega), bk_E_ag.1 q (by omega)]; exact hrw q hq
  · rw [r47]; unfold hb_uf; rw [if_neg (by decide), if_pos rfl, e17]
  · rw [r47]; unfold hb_uf; rw [if_pos rfl, e18]
  · rw [r47]; unfold hb_uf; rw [if_neg h2, if_neg h1, if_neg h0]
  · rw [r47]; rfl
theorem bk_je_rg {X : hb_G} {n : Nat} {w t p a b c : Int} (hX : hb_rg X) (hn : n ≤ 200) (h17 : X 47 17 = n) (h18 : X 47 18 ≤ 300 ∧ 0 ≤ X 47 18) (iw : hb_in w) (it : hb_in t) (ip : hb_in p) (ia : hb_in a) (ib : hb_in b) (ic : hb_in c) : hb_rg (hb_je (hb_u2 X 47 0 0) w t p a b c) := by
  have e17 : hb_u2 X 47 0 0 47 17 = n := by rw [hb_u2_i (by decide)]; exact h17
  have e18 : hb_u2 X 47 0 0 47 18 = X 47 18 := hb_u2_i (by decide)
  unfold hb_je
  exact ((((((((((hX.u2 (by decide)).u2 iw).u2 (by decide)).u2 it).u2 ip).u2 ia).u2 ib).u2 ic).u2 (by rw [e17]; constructor <;> omega)).u2 (by rw [e18]; constructor <;> omega))
/-- what an accepted call leaves of the class -/
theorem bk_acc {E G G1 : hb_G} {F1 : hb_F} {na n : Nat} {xs' : List Nat} {ob' : Nat → Nat} {v : Int} (hcl : bk_cl E G1 F1 (na + 1) (n + 1) xs' ob') (hr : ∀ p : Nat, p ≠ 25 → p ≠ 29 → p ≠ 30 → p ≠ 31 → p ≠ 77 + na → G1 p = G p) (hR : hb_rg G1) (hbn : hb_bn G) (iv : hb_in v) : bk_cl E (hb_u2 (hb_u2 G1 32 9 (-1)) 76 0 v) F1 (na + 1) (n + 1) xs' ob' ∧ (∀ p : Nat, 47 ≤ p ∧ p ≤ 75 → hb_u2 (hb_u2 G1 32 9 (-1)) 76 0 v p = G p) ∧ hb_rg (hb_u2 (hb_u2 G1 32 9 (-1)) 76 0 v) ∧ hb_bn (hb_u2 (hb_u2 G1 32 9 (-1)) 76 0 v) ∧ hb_u2 (hb_u2 G1 32 9 (-1)) 76 0 v 32 9 = -1 ∧ hb_u2 (hb_u2 G1 32 9 (-1)) 76 0 v 76 0 = v ∧ hb_u2 (hb_u2 G1 32 9 (-1)) 76 0 v 6 = G 6 := by
  refine ⟨hcl.k (fun p hp => by rw [hb_u2_n (by omega), hb_u2_n (by omega)]), fun p hp => by rw [hb_u2_n (by omega), hb_u2_n (by omega)]; exact hr p (by omega) (by omega) (by omega) (by omega) (by omega), (hR.u2 (by decide)).u2 iv, bk_bn_c (fun p hp => by rw [hb_u2_n (by omega), hb_u2_n (by omega)]; exact hr p (by omega) (by omega) (by omega) (by omega) (by omega)) hbn, ?_, hb_u2_s, ?_⟩
  · rw [hb_u2_n (by decide), hb_u2_s]
  · rw [hb_u2_n (by decide), hb_u2_n (by decide)]; exact hr 6 (by decide) (by decide) (by decide) (by decide) (by omega)
theorem en_row {G : hb_G} {q : Nat} {row : Int → Int} {n : Int} : hb_u2 (hb_u1 G q row) q 3 n q = hb_uf row 3 n := by
  rw [hb_u2_u1, hb_u1_s]
theorem en_obj {D G : hb_G} {na n : Nat} {s w t p a b c o pl m cy d : Int} (hs : s = bk_srt w) (h1 : w = 1 → o = a ∧ pl = b) (h0 : w = 0 → m = a ∧ cy = b) (h3 : 3 ≤ w → o = a) (h4 : w = 4 → m = b ∧ cy = c / 10001 ∧ d = c % 10001) : bk_obj (bk_E D n w t p a b c) (hb_u2 (hb_u1 G (77 + na) (hb_er s t p o pl m cy d)) (77 + na) 3 n) n (77 + na) := by
  obtain ⟨e1, e2, e3, e4, e5, e6, e7⟩ := bk_E_at (D := D) (n := n) (w := w) (t := t) (p := p) (a := a) (b := b) (c := c)
  unfold bk_obj
  rw [en_row, e1, e3, e4, e5, e6, e7]
  exact ⟨hs, rfl, rfl, rfl, h1, h0, h3, h4⟩
theorem en_rowin {s t p o pl m c d : Int} (is : hb_in s) (it : hb_in t) (ip : hb_in p) (io : hb_in o) (ipl : hb_in pl) (im : hb_in m) (ic : hb_in c) (id : hb_in d) : ∀ i, hb_in (hb_er s t p o pl m c d i) := by
  intro i
  unfold hb_er
  repeat' split
  all_goals first | assumption | decide
theorem en_vd {D : hb_G} {n : Nat} {w t p a b c : Int} (hw : 0 ≤ w ∧ w ≤ 5) (ht : (0 ≤ t ∧ t < 40) ∧ D 51 t ≠ -1) (hp : 0 ≤ p ∧ p ≤ 3000099) (h0 : w = 0 → hb_jm D t ∧ (0 ≤ a ∧ a ≤ 100000) ∧ (0 ≤ b ∧ b ≤ 100000)) (h1 : w = 1 → ((0 ≤ a ∧ a < 40) ∧ D 51 a ≠ -1) ∧ (0 ≤ b ∧ b < 4)) (h3 : w = 3 ∨ w = 4 → (0 ≤ a ∧ a < 16) ∧ D 55 a ≠ -1) (h4 : w = 4 → (0 ≤ b ∧ b ≤ 10000) ∧ 0 ≤ c ∧ c / 10001 ≤ 10000) (h5 : w = 5 → 0 ≤ a ∧ a < 8) : bk_vd (bk_E D n w t p a b c) n := by
  obtain ⟨e1, e2, e3, e4, e5, e6, e7⟩ := bk_E_at (D := D) (n := n) (w := w) (t := t) (p := p) (a := a) (b := b) (c := c)
  unfold bk_vd
  rw [e1, e2, e3, e4, e5, e6, e7]
  exact ⟨hw, Or.inr rfl, ht, hp, h0, h1, h3, h4, h5⟩
/-- an object more, that nobody knows -/
theorem en_keep {D G X : hb_G} {F1 : hb_F} {na n : Nat} {xs : List Nat} {ob : Nat → Nat} {v : Int} (hcl : bk_cl D X F1 (na + 1) n xs ob) (hr : ∀ p : Nat, 26 ≤ p → p ≠ 29 → p ≠ 30 → p ≠ 31 → p < 77 → X p = G p) (hX : hb_rg X) (h6 : X 6 = G 6) (h11 : X 11 = G 11) (hd : bk_dt D n xs) (hLG : bk_LG D xs.reverse) (hmi : bk_mi D xs) (hrf : bk_rf D G n xs) (hsh : bk_sh D G xs) (hbn : hb_bn G) (iv : hb_in v) : bk_I (hb_u2 X 47 0 v) F1 (na + 1) := by
  have hk : ∀ p : Nat, p ≠ 47 → hb_u2 X 47 0 v p = X p := fun p hp => hb_u2_n hp
  refine ⟨D, n, xs, ob, bk_J_of (hcl.k (fun p hp => hk p (by omega))) hd hLG hmi (hrf.kz (fun p hp => ?_) (fun i hi => ?_)), bk_sh_c hsh (fun p hp => by rw [hk p (by omega)]; exact hr p (by omega) (by omega) (by omega) (by omega) (by omega)), hX.u2 iv, bk_bn_c (fun p hp => ?_) hbn⟩
  · rw [hk p (by omega)]
    by_cases h : p = 6
    · rw [h]; exact h6
    · exact hr p (by omega) (by omega) (by omega) (by omega) (by omega)
  · rw [hb_u2_i hi, hr 47 (by omega) (by omega) (by omega) (by omega) (by omega)]
  · rw [hk p (by omega)]
    by_cases h : p = 11
    · rw [h]; exact h11
    · exact hr p (by omega) (by omega) (by omega) (by omega) (by omega)
theorem en_full {D G : hb_G} {F : hb_F} {na n : Nat} {xs : List Nat} {ob : Nat → Nat} {row : Int → Int} (hcl : bk_cl D G F na n xs ob) (hG : hb_rg G) (hrow : ∀ i, hb_in (row i)) : bk_cl D (hb_u1 G (77 + na) row) F (na + 1) n xs ob ∧ hb_rg (hb_u1 G (77 + na) row) ∧ ∀ p : Nat, p < 77 → hb_u1 G (77 + na) row p = G p := by
  obtain ⟨a1, a2, a3, a4, a5, a6, a7, a8, a9⟩ := hcl
  have hr : ∀ p : Nat, p < 77 → hb_u1 G (77 + na) row p = G p := fun p hp => hb_u1_n (by omega)
  refine ⟨⟨?_, by rw [hr 25 (by omega)]; exact a2, by rw [hr 25 (by omega)]; exact a3, fun e he => ⟨by have := (a4 e he).1; omega, ?_⟩, a5, a6, a7, a8, by rw [hr 6 (by omega), hr 7 (by omega)]; exact a9⟩, fun p i => ?_, hr⟩
  · unfold bk_sl
    rw [hr 2 (by omega), hr 7 (by omega), hr 9 (by omega), hr 10 (by omega), hr 11 (by omega), hr 13 (by omega), hr 15 (by omega), hr 16 (by omega), hr 17 (by omega), hr 18 (by omega), hr 20 (by omega), hr 21 (by omega), hr 22 (by omega), hr 23 (by omega), hr 24 (by omega), hr 4 (by omega), hr 5 (by omega)]
    exact a1
  · unfold bk_obj; rw [hb_u1_n (by have := (a4 e he).1; omega)]; exact (a4 e he).2
  · by_cases h : p = 77 + na
    · subst h; rw [hb_u1_s]; exact hrow i
    · rw [hb_u1_n h]; exact hG _ _
/-- a note is entered -/
theorem en_note {D G X : hb_G} {F1 : hb_F} {na n : Nat} {x1 x2 : List Nat} {ob' : Nat → Nat} {w t p a b c : Int} (hd : bk_dt D n (x1 ++ x2)) (hLG : bk_LG D (x1 ++ x2).reverse) (hmi : bk_mi D (x1 ++ x2)) (hrf : bk_rf D G n (x1 ++ x2)) (hn : n < 200) (hw : 3 ≤ w) (hc : 0 ≤ c) (hv : bk_vd (bk_E D n w t p a b c) n) (h1 : ∀ f ∈ x1, bk_bf (bk_E D n w t p a b c) f n) (h2 : ∀ f ∈ x2, bk_bf (bk_E D n w t p a b c) n f) (hcl : bk_cl (bk_E D n w t p a b c) X F1 (na + 1) (n + 1) (x1 ++ n :: x2) ob') (hrX : ∀ p : Nat, 47 ≤ p ∧ p ≤ 75 → X p = G p) (hX : hb_rg X) (hbX : hb_bn X) (h9 : X 32 9 = -1) (h6 : X 6 = G 6) (iw : hb_in w) (it : hb_in t) (ip : hb_in p) (ia : hb_in a) (ib : hb_in b) (ic : hb_in c) : bk_I (hb_je (hb_u2 X 47 0 0) w t p a b c) F1 (na + 1) := by
  obtain ⟨c1, c2, c3, c4, c5, c6⟩ := hrf
  obtain ⟨e1, e2, e3, e4, e5, e6, e7⟩ := bk_E_at (D := D) (n := n) (w := w) (t := t) (p := p) (a := a) (b := b) (c := c)
  have hlt : ∀ e ∈ x1 ++ x2, e < n := fun e he => ((hd.2.2.1 e).mp he).1
  have x47 := hrX 47 (by omega)
  have hX17 : X 47 17 = n := by rw [x47]; exact c3
  obtain ⟨j1, j2, j3, j4, j5, j6⟩ := bk_je (w := w) (t := t) (p := p) (a := a) (b := b) (c := c) (X := X) (D := D) (n := n) (fun q hq => (hrX q (by omega)).trans (c1 q hq)) hX17
  have hnm : ¬ (bk_E D n w t p a b c 63 n = 1 ∨ bk_E D n w t p a b c 63 n = 2) := by rw [e1]; omega
  have hE73 : bk_E D n w t p a b c 73 = D 73 := rfl
  have hdn := bk_dt_new hd bk_E_ag hn e2 hv (by rw [e7]; exact hc) h1 h2 (fun h => absurd h hnm)
  have hfm : (x1 ++ n :: x2).filter (bk_mb (bk_E D n w t p a b c)) = (x1 ++ x2).filter (bk_mb D) := by
    rw [List.filter_append, List.filter_cons_of_neg (by simpa [bk_mb] using hnm), ← List.filter_append]
    exact bk_E_ag.fm hlt
  have hlen : (x1 ++ x2).length ≤ 200 := Nat.le_trans (bk_nd_len (bk_nd hd.2.1) hlt) (by omega)
  refine ⟨bk_E D n w t p a b c, n + 1, x1 ++ n :: x2, ob', bk_J_of (hcl.k (fun q hq => j6 q (by omega) (by omega))) hdn (bk_LG_new hlt bk_E_ag hnm hLG) (bk_mi_new hlt bk_E_ag hE73 (by rw [e1]; exact hw) hmi) ⟨j1, ?_, j2.trans (by omega), ?_, ⟨?_, fun j e he => ?_⟩, ?_⟩, Or.inl ?_, ?_, bk_bn_c (fun q hq => j6 q (by omega) (by omega)) hbX⟩
  · rw [j6 73 (by omega) (by decide), hrX 73 (by omega), hE73]; exact c2
  · rw [j3, x47, c4, List.length_append, List.length_append, List.length_cons]; omega
  · rw [j4 26 (by decide) (by decide) (by decide), x47, hfm]; exact c5.1
  · rw [j6 70 (by omega) (by decide), hrX 70 (by omega)]; rw [hfm] at he; exact c5.2 j e he
  · rw [j4 4 (by decide) (by decide) (by decide), x47, j6 6 (by omega) (by decide), h6]; exact c6
  · rw [j6 32 (by omega) (by decide)]; exact h9
  · exact bk_je_rg hX (by omega) hX17 (by rw [x47, c4]; omega) iw it ip ia ib ic
/-- an entry with a check: flight, put, take -/
theorem en_check {l : Launch} {D G X : hb_G} {F1 : hb_F} {na n : Nat} {x1 x2 : List Nat} {ob' : Nat → Nat} {w t p a b c : Int} (hd : bk_dt D n (x1 ++ x2)) (hrf : bk_rf D G n (x1 ++ x2)) (hn : n < 200) (hc : 0 ≤ c) (hv : bk_vd (bk_E D n w t p a b c) n) (h1 : ∀ f ∈ x1, bk_bf (bk_E D n w t p a b c) f n) (h2 : ∀ f ∈ x2, bk_bf (bk_E D n w t p a b c) n f) (hmv : (w = 1 ∨ w = 2) → ¬ ∃ f, f ∈ x1 ++ x2 ∧ bk_E D n w t p a b c 66 f = bk_E D n w t p a b c 66 n ∧ (bk_E D n w t p a b c 63 f = 1 ∨ bk_E D n w t p a b c 63 f = 2)) (hrX : ∀ p : Nat, 47 ≤ p ∧ p ≤ 75 → X p = G p) (hX : hb_rg X) (h6 : X 6 = G 6) (iw : hb_in w) (it : hb_in t) (ip : hb_in p) (ia : hb_in a) (ib : hb_in b) (ic : hb_in c) :
    (bk_LG (bk_E D n w t p a b c) (x1 ++ n :: x2).reverse → ∃ H, hb_M l yX9_check cX9_check 3 (some .boolean) 5 0 0 [hb_r 47] (hb_w (hb_je (hb_u2 X 47 0 0) w t p a b c) F1 (na + 1)) (77 + (na + 1)) (.inl (some (hb_i 1))) (hb_w H F1 (na + 1)) (77 + (na + 1)) ∧ H 47 0 = 0 ∧ H 76 = X 76 ∧ (bk_cl (bk_E D n w t p a b c) X F1 (na + 1) (n + 1) (x1 ++ n :: x2) ob' → hb_bn X → X 32 9 = -1 → bk_I H F1 (na + 1))) ∧
    (¬ bk_LG (bk_E D n w t p a b c) (x1 ++ n :: x2).reverse → ∃ H, hb_M l yX9_check cX9_check 3 (some .boolean) 5 0 0 [hb_r 47] (hb_w (hb_je (hb_u2 X 47 0 0) w t p a b c) F1 (na + 1)) (77 + (na + 1)) (.inl (some (hb_i 0))) (hb_w H F1 (na + 1)) (77 + (na + 1)) ∧ bk_kk (hb_je (hb_u2 X 47 0 0) w t p a b c) H ∧ hb_rg H) := by
  obtain ⟨c1, c2, c3, c4, c5, c6⟩ := hrf
  obtain ⟨e1, e2, e3, e4, e5, e6, e7⟩ := bk_E_at (D := D) (n := n) (w := w) (t := t) (p := p) (a := a) (b := b) (c := c)
  have hlt : ∀ e ∈ x1 ++ x2, e < n := fun e he => ((hd.2.2.1 e).mp he).1
  have x47 := hrX 47 (by omega)
  have hX17 : X 47 17 = n := by rw [x47]; exact c3
  have hlen : (x1 ++ x2).length ≤ 200 := Nat.le_trans (bk_nd_len (bk_nd hd.2.1) hlt) (by omega)
  obtain ⟨j1, j2, j3, j4, j5, j6⟩ := bk_je (w := w) (t := t) (p := p) (a := a) (b := b) (c := c) (X := X) (D := D) (n := n) (fun q hq => (hrX q (by omega)).trans (c1 q hq)) hX17
  have hdn := bk_dt_new hd bk_E_ag hn e2 hv (by rw [e7]; exact hc) h1 h2 (fun h f hf hf2 h9 => hmv (by rw [e1] at h; exact h) ⟨f, hf, h9, hf2⟩)
  have hYr := bk_je_rg hX (by omega) hX17 (by rw [x47, c4]; omega) iw it ip ia ib ic
  have hck := bk_ck (l := l) (F := F1) (na := na + 1) hdn j1 hYr (j2.trans (by omega)) (by rw [j3, x47, c4, List.length_append, List.length_append, List.length_cons]; omega) (by rw [j4 4 (by decide) (by decide) (by decide), x47, j6 6 (by omega) (by decide), h6]; exact c6)
  constructor
  · intro hL
    obtain ⟨H, k1, k2, k3, k4, k5⟩ := hck.1 hL
    refine ⟨H, k1, ?_, ?_, fun hcl hbX h9 => ⟨_, n + 1, x1 ++ n :: x2, ob', bk_J_of ((hcl.ag (bk_73 (g := H 73)) (fun e he => ((hdn.2.2.1 e).mp he).1)).k (fun q hq => ?_)) (bk_dt_73 hdn) (bk_73.LG (fun e he => ((hdn.2.2.1 e).mp (List.mem_reverse.mp he)).1) hL) k5 k4, Or.inl ?_, k3, bk_bn_c (fun q hq => ?_) hbX⟩⟩
    · rw [k2.2 0 (by decide)]; exact j5
    · rw [k2.1 76 (by decide) (by decide) (by decide) (by decide) (by decide)]; exact j6 76 (by omega) (by decide)
    · rw [k2.1 q (by omega) (by omega) (by omega) (by omega) (by omega)]; exact j6 q (by omega) (by omega)
    · rw [k2.1 32 (by decide) (by decide) (by decide) (by decide) (by decide), j6 32 (by omega) (by decide)]; exact h9
    · rw [k2.1 q (by omega) (by omega) (by omega) (by omega) (by omega)]; exact j6 q (by omega) (by omega)
  · intro hL
    exact hck.2 hL

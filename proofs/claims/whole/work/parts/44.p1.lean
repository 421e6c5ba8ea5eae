/-! chains of parents -/
theorem hb_en_s {par : Int → Int} : ∀ {n : Nat} {t : Int}, hb_en par n t → hb_en par (n + 1) t
  | 0, t, h => Or.inl h
  | n + 1, t, h => h.elim Or.inl (fun h => Or.inr (hb_en_s h))
theorem hb_en_le {par : Int → Int} {n m : Nat} {t : Int} (h : hb_en par n t) (hm : n ≤ m) : hb_en par m t := by
  induction hm with
  | refl => exact h
  | step _ ih => exact hb_en_s ih
theorem hb_ii_s {par : Int → Int} {u : Int} : ∀ {n : Nat} {t : Int}, hb_ii par u n t → hb_ii par u (n + 1) t
  | 0, t, h => Or.inl h
  | n + 1, t, h => h.elim Or.inl (fun h => Or.inr ⟨h.1, hb_ii_s h.2⟩)
theorem hb_ii_le {par : Int → Int} {u : Int} {n m : Nat} {t : Int} (h : hb_ii par u n t) (hm : n ≤ m) : hb_ii par u m t := by
  induction hm with
  | refl => exact h
  | step _ ih => exact hb_ii_s ih
theorem hb_ii_rf {par : Int → Int} {u : Int} : ∀ {n : Nat}, hb_ii par u n u
  | 0 => rfl
  | _ + 1 => Or.inl rfl
theorem hb_la_ii {par : Int → Int} {u : Int} : ∀ {n : Nat} {lv t : Int}, 0 ≤ lv → t ≠ -1 → (hb_la par u (n + 1) lv t ≠ -1 ↔ hb_ii par u n t)
  | 0, lv, t, h0, ht => by
    unfold hb_la hb_ii
    rw [if_neg ht]
    by_cases e : t = u
    · rw [if_pos e]; exact ⟨fun _ => e, fun _ => by omega⟩
    · rw [if_neg e]; unfold hb_la; exact ⟨fun h => absurd rfl h, fun h => absurd h e⟩
  | n + 1, lv, t, h0, ht => by
    unfold hb_la hb_ii
    rw [if_neg ht]
    by_cases e : t = u
    · rw [if_pos e]; exact ⟨fun _ => Or.inl e, fun _ => by omega⟩
    · rw [if_neg e]
      by_cases e2 : par t = -1
      · rw [e2]
        unfold hb_la
        rw [if_pos rfl]
        exact ⟨fun h => absurd rfl h, fun h => h.elim (fun h => absurd h e) (fun h => absurd rfl h.1)⟩
      · rw [hb_la_ii (by omega) e2]
        exact ⟨fun h => Or.inr ⟨e2, h⟩, fun h => h.elim (fun h => absurd h e) (fun h => h.2)⟩
theorem hb_dp_p {par : Int → Int} {n : Nat} {t : Int} (h : par t ≠ -1) : hb_dp par (n + 1) t = 1 + hb_dp par n (par t) := by
  conv => lhs; unfold hb_dp
  rw [if_neg h]
theorem hb_dp_s {par : Int → Int} : ∀ {n : Nat} {t : Int}, hb_en par n t → hb_dp par (n + 1) t = hb_dp par n t
  | 0, t, h => by unfold hb_dp; rw [if_pos (show par t = -1 from h)]
  | n + 1, t, h => by
    by_cases e : par t = -1
    · unfold hb_dp; rw [if_pos e, if_pos e]
    · have h2 : hb_en par n (par t) := h.elim (fun h => absurd h e) id
      have h3 := hb_dp_s h2
      conv => lhs; unfold hb_dp
      conv => rhs; unfold hb_dp
      rw [if_neg e, if_neg e, h3]
theorem hb_dp_le {par : Int → Int} {n m : Nat} {t : Int} (h : hb_en par n t) (hm : n ≤ m) : hb_dp par m t = hb_dp par n t := by
  induction hm with
  | refl => rfl
  | step hm ih => rw [hb_dp_s (hb_en_le h hm), ih]
theorem hb_dp_0 {par : Int → Int} {n : Nat} {t : Int} (h : par t = -1) : hb_dp par n t = 0 := by
  cases n with
  | zero => rfl
  | succ n => unfold hb_dp; rw [if_pos h]
theorem hb_la_dp {par : Int → Int} {u : Int} : ∀ {n : Nat} {lv t : Int}, t ≠ -1 → hb_en par n t → hb_ii par u n t → hb_la par u (n + 1) lv t = lv + hb_dp par n t - hb_dp par n u ∧ hb_en par n u
  | 0, lv, t, ht, he, hi => by
    have hi : t = u := hi
    subst hi
    refine ⟨?_, he⟩
    unfold hb_la
    rw [if_neg ht, if_pos rfl]
    omega
  | n + 1, lv, t, ht, he, hi => by
    by_cases e : t = u
    · subst e
      refine ⟨?_, he⟩
      unfold hb_la
      rw [if_neg ht, if_pos rfl]
      omega
    · obtain ⟨h1, h2⟩ := hi.elim (fun h => absurd h e) id
      have he2 : hb_en par n (par t) := he.elim (fun h => absurd h h1) id
      obtain ⟨h3, h4⟩ := hb_la_dp (lv := lv + 1) h1 he2 h2
      refine ⟨?_, hb_en_s h4⟩
      have h5 := hb_dp_s h4
      conv => lhs; unfold hb_la
      rw [if_neg ht, if_neg e, h3, h5, hb_dp_p h1]
      omega
theorem hb_tp_ii {par : Int → Int} : ∀ {n : Nat} {t : Int}, hb_en par n t → hb_ii par (hb_tp par n t) n t ∧ par (hb_tp par n t) = -1
  | 0, t, h => ⟨rfl, h⟩
  | n + 1, t, h => by
    unfold hb_tp hb_ii
    by_cases e : par t = -1
    · rw [if_pos e]; exact ⟨Or.inl rfl, e⟩
    · rw [if_neg e]
      have h2 : hb_en par n (par t) := h.elim (fun h => absurd h e) id
      have h3 := hb_tp_ii h2
      exact ⟨Or.inr ⟨e, h3.1⟩, h3.2⟩
theorem hb_ii_tp {par : Int → Int} {u : Int} (hu : par u = -1) : ∀ {n : Nat} {t : Int}, hb_ii par u n t → hb_tp par n t = u
  | 0, t, h => h
  | n + 1, t, h => by
    unfold hb_tp
    rcases h with h | ⟨h1, h2⟩
    · subst h; rw [if_pos hu]
    · rw [if_neg h1]; exact hb_ii_tp hu h2
theorem hb_tp_s {par : Int → Int} : ∀ {n : Nat} {t : Int}, hb_en par n t → hb_tp par (n + 1) t = hb_tp par n t
  | 0, t, h => by
    unfold hb_tp
    rw [if_pos (show par t = -1 from h)]
  | n + 1, t, h => by
    by_cases e : par t = -1
    · unfold hb_tp; rw [if_pos e, if_pos e]
    · have h2 : hb_en par n (par t) := h.elim (fun h => absurd h e) id
      conv => lhs; unfold hb_tp
      conv => rhs; unfold hb_tp
      rw [if_neg e, if_neg e, hb_tp_s h2]
/-- the depth, by the top -/
theorem hb_la_tp {par : Int → Int} {n : Nat} {t : Int} (ht : t ≠ -1) (he : hb_en par n t) : hb_la par (hb_tp par n t) (n + 1) 0 t = hb_dp par n t := by
  have h1 := hb_tp_ii he
  rw [(hb_la_dp ht he h1.1).1, hb_dp_0 h1.2]
  omega
theorem hb_en_tk {par par2 : Int → Int} {t : Int} (h2 : ∀ c, par2 c = if c = t then -1 else par c) : ∀ {n : Nat} {c : Int}, hb_en par n c → hb_en par2 n c
  | 0, c, h => by
    show par2 c = -1
    rw [h2]
    split
    · rfl
    · exact h
  | n + 1, c, h => by
    show par2 c = -1 ∨ hb_en par2 n (par2 c)
    by_cases e : c = t
    · exact Or.inl (by rw [h2, if_pos e])
    · rw [h2, if_neg e]
      exact h.elim Or.inl (fun h => Or.inr (hb_en_tk h2 h))
theorem hb_en_f1 {par par2 : Int → Int} {t a : Int} (h2 : ∀ c, par2 c = if c = t then a else par c) : ∀ {n : Nat} {c : Int}, hb_en par n c → ¬ hb_ii par t n c → hb_en par2 n c
  | 0, c, h, hn => by
    show par2 c = -1
    rw [h2, if_neg (show ¬ c = t from hn)]
    exact h
  | n + 1, c, h, hn => by
    show par2 c = -1 ∨ hb_en par2 n (par2 c)
    have e : c ≠ t := fun e => hn (Or.inl e)
    rw [h2, if_neg e]
    rcases h with h | h
    · exact Or.inl h
    · by_cases e2 : par c = -1
      · exact Or.inl e2
      · exact Or.inr (hb_en_f1 h2 h (fun h3 => hn (Or.inr ⟨e2, h3⟩)))
/-- depth as a natural number -/
def hb_dn (par : Int → Int) (n : Nat) (t : Int) : Nat := match n with
  | 0 => 0
  | n + 1 => if par t = -1 then 0 else hb_dn par n (par t) + 1
theorem hb_dn_dp {par : Int → Int} : ∀ {n : Nat} {t : Int}, hb_dp par n t = hb_dn par n t
  | 0, t => rfl
  | n + 1, t => by
    unfold hb_dp hb_dn
    split
    · rfl
    · rw [hb_dn_dp]; omega
theorem hb_en_dn {par : Int → Int} : ∀ {n : Nat} {t : Int}, hb_en par n t → hb_en par (hb_dn par n t) t
  | 0, t, h => h
  | n + 1, t, h => by
    unfold hb_dn
    by_cases e : par t = -1
    · rw [if_pos e]; exact e
    · rw [if_neg e]
      exact Or.inr (hb_en_dn (h.elim (fun h => absurd h e) id))
theorem hb_en_f3 {par par2 : Int → Int} {t a : Int} (h2 : ∀ c, par2 c = if c = t then a else par c) (ht : par t = -1) {d : Nat} (hd : hb_en par2 d a) : ∀ {n : Nat} {c : Int}, hb_en par n c → hb_ii par t n c → hb_en par2 (hb_dn par n c + 1 + d) c
  | 0, c, h, hi => by
    have hi : c = t := hi
    subst hi
    rw [show hb_dn par 0 c + 1 + d = d + 1 by unfold hb_dn; omega]
    exact Or.inr (by rw [h2, if_pos rfl]; exact hd)
  | n + 1, c, h, hi => by
    by_cases e : c = t
    · subst e
      rw [show hb_dn par (n + 1) c + 1 + d = d + 1 by unfold hb_dn; rw [if_pos ht]; omega]
      exact Or.inr (by rw [h2, if_pos rfl]; exact hd)
    · obtain ⟨h3, h4⟩ := hi.elim (fun h => absurd h e) id
      have h5 := hb_en_f3 h2 ht hd (h.elim (fun h => absurd h h3) id) h4
      rw [show hb_dn par (n + 1) c + 1 + d = (hb_dn par n (par c) + 1 + d) + 1 by conv => lhs; unfold hb_dn
                                                                                  rw [if_neg h3]; omega]
      exact Or.inr (by rw [h2, if_neg e]; exact h5)
/-- a thing hung: all chains still end in time -/
theorem hb_en_pt {par par2 : Int → Int} {t a : Int} (h2 : ∀ c, par2 c = if c = t then a else par c) (ht : par t = -1) (hen : ∀ c, 0 ≤ c ∧ c < 40 → hb_en par 4 c) (ha : 0 ≤ a ∧ a < 40) (hna : ¬ hb_ii par t 4 a) (hh : ∀ c, 0 ≤ c ∧ c < 40 → hb_ii par t 4 c → hb_dp par 4 a + 1 + hb_dp par 4 c ≤ 4) : ∀ c, 0 ≤ c ∧ c < 40 → hb_en par2 4 c := by
  intro c hc
  by_cases e : hb_ii par t 4 c
  · have h3 := hb_en_dn (hen a ha)
    have h4 : hb_dn par 4 a ≤ 4 := by have := hh c hc e; rw [hb_dn_dp, hb_dn_dp] at this; omega
    have h5 := hb_en_f1 h2 h3 (fun h => hna (hb_ii_le h h4))
    have h6 := hb_en_f3 h2 ht h5 (hen c hc) e
    have h7 := hh c hc e
    rw [hb_dn_dp, hb_dn_dp] at h7
    exact hb_en_le h6 (by omega)
  · exact hb_en_f1 h2 (hen c hc) e
/-! congruence on the range of things -/
def bk_eq (par par2 : Int → Int) : Prop := ∀ t, 0 ≤ t ∧ t < 40 → par2 t = par t
theorem bk_tr_c {par par2 : Int → Int} (h : bk_eq par par2) (hp : hb_tr par) : hb_tr par2 := fun t ht => by rw [h t ht]; exact hp t ht
theorem bk_up {par : Int → Int} (hp : hb_tr par) {t : Int} (ht : 0 ≤ t ∧ t < 40) (hn : par t ≠ -1) : 0 ≤ par t ∧ par t < 40 := by
  have := hp t ht
  omega
theorem bk_en_c {par par2 : Int → Int} (h : bk_eq par par2) (hp : hb_tr par) : ∀ {n : Nat} {t : Int}, 0 ≤ t ∧ t < 40 → (hb_en par2 n t ↔ hb_en par n t)
  | 0, t, ht => by unfold hb_en; rw [h t ht]
  | n + 1, t, ht => by
    unfold hb_en
    rw [h t ht]
    by_cases e : par t = -1
    · simp [e]
    · simp only [e, false_or]
      exact bk_en_c h hp (bk_up hp ht e)
theorem bk_ii_c {par par2 : Int → Int} {u : Int} (h : bk_eq par par2) (hp : hb_tr par) : ∀ {n : Nat} {t : Int}, 0 ≤ t ∧ t < 40 → (hb_ii par2 u n t ↔ hb_ii par u n t)
  | 0, t, ht => Iff.rfl
  | n + 1, t, ht => by
    unfold hb_ii
    rw [h t ht]
    by_cases e : par t = -1
    · simp [e]
    · rw [bk_ii_c h hp (bk_up hp ht e)]
theorem bk_dp_c {par par2 : Int → Int} (h : bk_eq par par2) (hp : hb_tr par) : ∀ {n : Nat} {t : Int}, 0 ≤ t ∧ t < 40 → hb_dp par2 n t = hb_dp par n t
  | 0, t, ht => rfl
  | n + 1, t, ht => by
    unfold hb_dp
    rw [h t ht]
    by_cases e : par t = -1
    · rw [if_pos e, if_pos e]
    · rw [if_neg e, if_neg e, bk_dp_c h hp (bk_up hp ht e)]
theorem bk_tp_c {par par2 : Int → Int} (h : bk_eq par par2) (hp : hb_tr par) : ∀ {n : Nat} {t : Int}, 0 ≤ t ∧ t < 40 → hb_tp par2 n t = hb_tp par n t
  | 0, t, ht => rfl
  | n + 1, t, ht => by
    unfold hb_tp
    rw [h t ht]
    by_cases e : par t = -1
    · rw [if_pos e, if_pos e]
    · rw [if_neg e, if_neg e, bk_tp_c h hp (bk_up hp ht e)]
theorem bk_tp_r {par : Int → Int} (hp : hb_tr par) : ∀ {n : Nat} {t : Int}, 0 ≤ t ∧ t < 40 → 0 ≤ hb_tp par n t ∧ hb_tp par n t < 40
  | 0, t, ht => ht
  | n + 1, t, ht => by
    unfold hb_tp
    by_cases e : par t = -1
    · rw [if_pos e]; exact ht
    · rw [if_neg e]; exact bk_tp_r hp (bk_up hp ht e)
theorem bk_dp_0 {par : Int → Int} : ∀ {n : Nat} {t : Int}, 0 ≤ hb_dp par n t
  | 0, t => Int.le_refl _
  | n + 1, t => by
    unfold hb_dp
    split
    · exact Int.le_refl _
    · have := bk_dp_0 (par := par) (n := n) (t := par t); omega
/-- inside: the depth is no smaller -/
theorem bk_ii_dp {par : Int → Int} {u t : Int} {n : Nat} (ht : t ≠ -1) (he : hb_en par n t) (hi : hb_ii par u n t) : hb_dp par n u ≤ hb_dp par n t := by
  have h1 := (hb_la_dp (lv := 0) ht he hi).1
  have h2 := (hb_la_ii (par := par) (u := u) (n := n) (lv := 0) (t := t) (Int.le_refl _) ht).mpr hi
  have h3 : ∀ (n : Nat) (lv t : Int), 0 ≤ lv → hb_la par u n lv t = -1 ∨ lv ≤ hb_la par u n lv t := by
    intro n
    induction n with
    | zero => intro lv t h; exact Or.inl rfl
    | succ n ih =>
      intro lv t h
      unfold hb_la
      split
      · exact Or.inl rfl
      · split
        · exact Or.inr (Int.le_refl _)
        · rcases ih (lv + 1) (par t) (by omega) with h | h
          · exact Or.inl h
          · exact Or.inr (by omega)
  have h4 := h3 (n + 1) 0 t (Int.le_refl _)
  omega
theorem bk_hg_le {K : Nat → Prop} {f : Int → Int} {X : Int} (h0 : 0 ≤ X) : ∀ {n : Nat}, hb_hg K f n ≤ X ↔ ∀ c : Nat, c < n → K c → f c ≤ X
  | 0 => ⟨fun _ c hc => absurd hc (Nat.not_lt_zero _), fun _ => h0⟩
  | n + 1 => by
    unfold hb_hg
    have ih := bk_hg_le (K := K) (f := f) h0 (n := n)
    by_cases e : K n
    · rw [if_pos e]
      constructor
      · intro h c hc hk
        rcases Nat.lt_or_ge c n with h1 | h1
        · exact ih.mp (by omega) c h1 hk
        · have : c = n := by omega
          subst this; omega
      · intro h
        have h1 := ih.mpr (fun c hc hk => h c (by omega) hk)
        have h2 := h n (by omega) e
        omega
    · rw [if_neg e, ih]
      constructor
      · intro h c hc hk
        rcases Nat.lt_or_ge c n with h1 | h1
        · exact h c h1 hk
        · have : c = n := by omega
          subst this; exact absurd hk e
      · intro h c hc hk
        exact h c (by omega) hk
theorem bk_ht_le {f : Int → Int} {X : Int} (h0 : 0 ≤ X) : ∀ {n : Nat}, hb_ht f n ≤ X ↔ ∀ c : Nat, c < n → f c ≤ X
  | 0 => ⟨fun _ c hc => absurd hc (Nat.not_lt_zero _), fun _ => h0⟩
  | n + 1 => by
    unfold hb_ht
    have ih := bk_ht_le (f := f) h0 (n := n)
    constructor
    · intro h c hc
      rcases Nat.lt_or_ge c n with h1 | h1
      · exact ih.mp (by omega) c h1
      · have : c = n := by omega
        subst this; omega
    · intro h
      have h1 := ih.mpr (fun c hc => h c (by omega))
      have h2 := h n (by omega)
      omega
theorem bk_hg_0 {K : Nat → Prop} {f : Int → Int} : ∀ {n : Nat}, 0 ≤ hb_hg K f n
  | 0 => Int.le_refl _
  | n + 1 => by
    unfold hb_hg
    have := bk_hg_0 (K := K) (f := f) (n := n)
    split <;> omega
theorem bk_ht_0 {f : Int → Int} : ∀ {n : Nat}, 0 ≤ hb_ht f n
  | 0 => Int.le_refl _
  | n + 1 => by
    unfold hb_ht
    have := bk_ht_0 (f := f) (n := n)
    omega
theorem bk_fd_n {P : Nat → Prop} : ∀ {n j : Nat}, hb_fd P n j 0 = -1 ↔ ∀ c, j ≤ c → c < j + n → ¬ P c
  | 0, j => ⟨fun _ c h1 h2 => by omega, fun _ => rfl⟩
  | n + 1, j => by
    unfold hb_fd
    by_cases e : P j
    · rw [if_pos e, if_pos rfl]
      constructor
      · intro h; omega
      · intro h; exact absurd e (h j (Nat.le_refl _) (by omega))
    · rw [if_neg e, bk_fd_n]
      constructor
      · intro h c h1 h2
        rcases Nat.lt_or_ge j c with h3 | h3
        · exact h c (by omega) (by omega)
        · have : c = j := by omega
          subst this; exact e
      · intro h c h1 h2; exact h c (by omega) (by omega)
/-- the first one, where there is just one -/
theorem bk_fd_1 {P : Nat → Prop} {c : Nat} (hc : P c) (hu : ∀ d, P d → d = c) : ∀ {n j : Nat}, j ≤ c → c < j + n → hb_fd P n j 0 = c
  | 0, j, h1, h2 => by omega
  | n + 1, j, h1, h2 => by
    unfold hb_fd
    by_cases e : P j
    · rw [if_pos e, if_pos rfl, hu j e]
    · rw [if_neg e]
      have : j ≠ c := fun h => e (h ▸ hc)
      exact bk_fd_1 hc hu (by omega) (by omega)
/-! trees -/
abbrev bk_P : Type := (Int → Int) × (Int → Int)
def bk_st (G : hb_G) (p : bk_P) (e : Nat) : bk_P := if G 63 e = 1 then (hb_uf p.1 (G 65 e) (G 67 e), hb_uf p.2 (G 65 e) (G 68 e)) else if G 63 e = 2 then (hb_uf p.1 (G 65 e) (-1), hb_uf p.2 (G 65 e) (-1)) else p
def bk_TR (G : hb_G) (r : List Nat) : bk_P := match r with
  | [] => (fun _ => -1, fun _ => -1)
  | e :: r => bk_st G (bk_TR G r) e
def bk_TI (G : hb_G) (par pl : Int → Int) : Prop := hb_tr par ∧ (∀ t, 0 ≤ t ∧ t < 40 → hb_en par 4 t) ∧ (∀ t, 0 ≤ t ∧ t < 40 → par t ≠ -1 → (0 ≤ pl t ∧ pl t < 4) ∧ G 51 t ≠ -1) ∧ (∀ c d, 0 ≤ c ∧ c < 40 → 0 ≤ d ∧ d < 40 → par c ≠ -1 → par c = par d → pl c = pl d → c = d)
def bk_my (G : hb_G) (par pl : Int → Int) (t a p : Int) : Prop := par t = -1 ∧ ¬ hb_ii par t 4 a ∧ G 48 (4 * G 51 a + p) = G 51 t ∧ (∀ c, 0 ≤ c ∧ c < 40 → ¬ (par c = a ∧ pl c = p)) ∧ ∀ c, 0 ≤ c ∧ c < 40 → hb_ii par t 4 c → hb_dp par 4 a + 1 + hb_dp par 4 c ≤ 4
theorem bk_TI_c {G G2 : hb_G} {par pl par2 pl2 : Int → Int} (h1 : bk_eq par par2) (h2 : bk_eq pl pl2) (hG : ∀ t, 0 ≤ t ∧ t < 40 → G 51 t ≠ -1 → G2 51 t ≠ -1) (h : bk_TI G par pl) : bk_TI G2 par2 pl2 := by
  obtain ⟨a1, a2, a3, a4⟩ := h
  refine ⟨bk_tr_c h1 a1, fun t ht => (bk_en_c h1 a1 ht).mpr (a2 t ht), fun t ht hn => ?_, fun c d hc hd hn e1 e2 => ?_⟩
  · rw [h1 t ht] at hn; rw [h2 t ht]; exact ⟨(a3 t ht hn).1, hG t ht (a3 t ht hn).2⟩
  · rw [h1 c hc] at hn e1; rw [h1 d hd] at e1; rw [h2 c hc, h2 d hd] at e2; exact a4 c d hc hd hn e1 e2
theorem bk_my_c {G G2 : hb_G} {par pl par2 pl2 : Int → Int} {t a p : Int} (h1 : bk_eq par par2) (h2 : bk_eq pl pl2) (e48 : G2 48 (4 * G2 51 a + p) = G 48 (4 * G 51 a + p)) (e51 : G2 51 t = G 51 t) (hp : hb_tr par) (ht : 0 ≤ t ∧ t < 40) (ha : 0 ≤ a ∧ a < 40) : bk_my G2 par2 pl2 t a p ↔ bk_my G par pl t a p := by
  unfold bk_my
  rw [h1 t ht, bk_ii_c h1 hp ha, e48, e51]
  refine and_congr Iff.rfl (and_congr Iff.rfl (and_congr Iff.rfl (and_congr ?_ ?_)))
  · exact forall_congr' fun c => forall_congr' fun hc => by rw [h1 c hc, h2 c hc]
  · exact forall_congr' fun c => forall_congr' fun hc => by rw [bk_ii_c h1 hp hc, bk_dp_c h1 hp hc, bk_dp_c h1 hp ha]
/-- the reference's word of a move -/
theorem bk_my_m {G : hb_G} {t a p : Int} (hI : bk_TI G (G 71) (G 72)) (ht : 0 ≤ t ∧ t < 40) (ha : 0 ≤ a ∧ a < 40) (hk : G 51 t ≠ -1) : hb_my G t a p ↔ bk_my G (G 71) (G 72) t a p := by
  obtain ⟨i1, i2, i3, i4⟩ := hI
  unfold hb_my bk_my
  refine and_congr_right fun h1 => and_congr_right fun h2 => and_congr_right fun h3 => and_congr ?_ ?_
  · rw [bk_fd_n]
    constructor
    · intro h c hc hh
      have hcn : ((c.toNat : Nat) : Int) = c := Int.toNat_of_nonneg hc.1
      refine h c.toNat (Nat.zero_le _) (by omega) ⟨?_, ?_, ?_⟩ <;> rw [hcn]
      · have hne : G 71 c ≠ -1 := by rw [hh.1]; omega
        exact (i3 c hc hne).2
      · exact hh.1
      · exact hh.2
    · intro h c _ hc hh
      exact h c ⟨by omega, by omega⟩ ⟨hh.2.1, hh.2.2⟩
  · have hd0 : hb_dp (G 71) 4 t = 0 := hb_dp_0 h1
    have hda := bk_dp_0 (par := G 71) (n := 4) (t := a)
    unfold hb_hj
    constructor
    · intro h c hc hi
      have hX : 0 ≤ 3 - hb_dp (G 71) 4 a := by
        have := bk_hg_0 (K := hb_jk G t) (f := fun c => hb_dp (G 71) 4 c - hb_dp (G 71) 4 t) (n := 40); omega
      have h5 := (bk_hg_le (K := hb_jk G t) (f := fun c => hb_dp (G 71) 4 c - hb_dp (G 71) 4 t) hX (n := 40)).mp (by omega)
      have hcn : ((c.toNat : Nat) : Int) = c := Int.toNat_of_nonneg hc.1
      have hkc : G 51 c ≠ -1 := by
        by_cases e : G 71 c = -1
        · have : c = t := by
            rcases hi with h9 | h9
            · exact h9
            · exact absurd e h9.1
          rw [this]; exact hk
        · exact (i3 c hc e).2
      have h6 := h5 c.toNat (by omega) ⟨by rw [hcn]; exact hkc, by rw [hcn]; exact hi⟩
      simp only [hcn] at h6
      omega
    · intro h
      have h7 := h t ht hb_ii_rf
      have h8 := (bk_hg_le (K := hb_jk G t) (f := fun c => hb_dp (G 71) 4 c - hb_dp (G 71) 4 t) (X := 3 - hb_dp (G 71) 4 a) (by omega) (n := 40)).mpr (fun c hc hk9 => by
        have := h c ⟨by omega, by omega⟩ hk9.2
        show hb_dp (G 71) 4 c - hb_dp (G 71) 4 t ≤ _
        omega)
      omega
/-- what hangs at the places, by the class -/
def bk_ch (par pl ch : Int → Int) : Prop := ∀ a p, 0 ≤ a ∧ a < 40 → 0 ≤ p ∧ p < 4 → (ch (a * 4 + p) = -1 ∧ ∀ c, 0 ≤ c ∧ c < 40 → ¬ (par c = a ∧ pl c = p)) ∨ ((0 ≤ ch (a * 4 + p) ∧ ch (a * 4 + p) < 40) ∧ par (ch (a * 4 + p)) = a ∧ pl (ch (a * 4 + p)) = p)
theorem bk_ok_m {D G : hb_G} {par pl ch : Int → Int} {t a p : Int} (hI : bk_TI D par pl) (hch : bk_ch par pl ch) (ht : 0 ≤ t ∧ t < 40) (ha : 0 ≤ a ∧ a < 40) (hp : 0 ≤ p ∧ p < 4) (e48 : D 48 (4 * D 51 a + p) = G 2 (G 7 a * 4 + p)) (e51 : D 51 t = G 7 t) : hb_ok G par ch t a p ↔ bk_my D par pl t a p := by
  obtain ⟨i1, i2, i3, i4⟩ := hI
  unfold hb_ok bk_my
  rw [e48, e51]
  have c1 : ch (a * 4 + p) = -1 ↔ ∀ c, 0 ≤ c ∧ c < 40 → ¬ (par c = a ∧ pl c = p) := by
    rcases hch a p ha hp with ⟨h1, h2⟩ | ⟨h1, h2, h3⟩
    · exact ⟨fun _ => h2, fun _ => h1⟩
    · exact ⟨fun h => by omega, fun h => absurd ⟨h2, h3⟩ (h _ h1)⟩
  have c2 : hb_la par t 5 0 a = -1 ↔ ¬ hb_ii par t 4 a := by
    have := hb_la_ii (par := par) (u := t) (n := 4) (lv := 0) (t := a) (Int.le_refl _) (by omega)
    constructor
    · intro h h9; exact (this.mpr h9) h
    · intro h; exact Classical.byContradiction fun h9 => h (this.mp h9)
  have c3 : hb_la par (hb_tp par 4 a) 5 0 a = hb_dp par 4 a := hb_la_tp (by omega) (i2 a ha)
  rw [c2, c3]
  have key : par t = -1 → (hb_dp par 4 a + 1 + hb_ht (fun i => hb_la par t 5 0 i) 40 ≤ 4 ↔ ∀ c, 0 ≤ c ∧ c < 40 → hb_ii par t 4 c → hb_dp par 4 a + 1 + hb_dp par 4 c ≤ 4) := by
    intro h1
    have hd0 : hb_dp par 4 t = 0 := hb_dp_0 h1
    have hda := bk_dp_0 (par := par) (n := 4) (t := a)
    constructor
    · intro h c hc hi
      have hX : 0 ≤ 3 - hb_dp par 4 a := by
        have := bk_ht_0 (f := fun i => hb_la par t 5 0 i) (n := 40); omega
      have h5 := (bk_ht_le (f := fun i => hb_la par t 5 0 i) hX (n := 40)).mp (by omega)
      have hcn : ((c.toNat : Nat) : Int) = c := Int.toNat_of_nonneg hc.1
      have h6 := h5 c.toNat (by omega)
      simp only [hcn] at h6
      have h7 : hb_la par t 5 0 c = 0 + hb_dp par 4 c - hb_dp par 4 t := (hb_la_dp (lv := 0) (by omega) (i2 c hc) hi).1
      omega
    · intro h
      have h7 := h t ht hb_ii_rf
      have h8 := (bk_ht_le (f := fun i => hb_la par t 5 0 i) (X := 3 - hb_dp par 4 a) (by omega) (n := 40)).mpr (fun c hc => by
        show hb_la par t 5 0 (c : Int) ≤ _
        by_cases e : hb_ii par t 4 (c : Int)
        · have h9 : hb_la par t 5 0 (c : Int) = 0 + hb_dp par 4 (c : Int) - hb_dp par 4 t := (hb_la_dp (lv := 0) (by omega) (i2 c ⟨by omega, by omega⟩) e).1
          have := h c ⟨by omega, by omega⟩ e
          omega
        · have h9 := hb_la_ii (par := par) (u := t) (n := 4) (lv := 0) (t := (c : Int)) (Int.le_refl _) (by omega)
          have h10 : hb_la par t 5 0 (c : Int) = -1 := Classical.byContradiction fun h9' => e (h9.mp h9')
          omega)
      omega
  constructor
  · rintro ⟨h1, h2, h3, h4, h5⟩
    exact ⟨h1, h4, h3, c1.mp h2, (key h1).mp h5⟩
  · rintro ⟨h1, h2, h3, h4, h5⟩
    exact ⟨h1, c1.mpr h4, h3, h2, (key h1).mpr h5⟩
/-- a thing is hung -/
theorem bk_TI_pt {G : hb_G} {par pl : Int → Int} {t a p : Int} (hI : bk_TI G par pl) (ht : 0 ≤ t ∧ t < 40) (ha : 0 ≤ a ∧ a < 40) (hp : 0 ≤ p ∧ p < 4) (hk : G 51 t ≠ -1) (hm : bk_my G par pl t a p) : bk_TI G (hb_uf par t a) (hb_uf pl t p) := by
  obtain ⟨i1, i2, i3, i4⟩ := hI
  obtain ⟨m1, m2, m3, m4, m5⟩ := hm
  refine ⟨fun c hc => ?_, ?_, fun c hc hn => ?_, fun c d hc hd hn e1 e2 => ?_⟩
  · unfold hb_uf; split
    · omega
    · exact i1 c hc
  · exact hb_en_pt (fun c => rfl) m1 i2 ha m2 m5
  · unfold hb_uf at hn ⊢
    split
    · rename_i e; subst e; exact ⟨hp, hk⟩
    · rename_i e; rw [if_neg e] at hn; exact i3 c hc hn
  · unfold hb_uf at hn e1 e2
    by_cases e3 : c = t
    · rw [if_pos e3] at e1 e2
      by_cases e4 : d = t
      · omega
      · rw [if_neg e4] at e1 e2; exact absurd ⟨e1.symm, e2.symm⟩ (m4 d hd)
    · rw [if_neg e3] at hn e1 e2
      by_cases e4 : d = t
      · rw [if_pos e4] at e1 e2; exact absurd ⟨e1, e2⟩ (m4 c hc)
      · rw [if_neg e4] at e1 e2; exact i4 c d hc hd hn e1 e2
theorem bk_TI_tk {G : hb_G} {par pl : Int → Int} {t : Int} (hI : bk_TI G par pl) : bk_TI G (hb_uf par t (-1)) (hb_uf pl t (-1)) := by
  obtain ⟨i1, i2, i3, i4⟩ := hI
  refine ⟨fun c hc => ?_, fun c hc => hb_en_tk (par := par) (t := t) (fun c => rfl) (i2 c hc), fun c hc hn => ?_, fun c d hc hd hn e1 e2 => ?_⟩
  · unfold hb_uf; split
    · omega
    · exact i1 c hc
  · unfold hb_uf at hn ⊢
    split
    · rename_i e; rw [if_pos e] at hn; exact absurd rfl hn
    · rename_i e; rw [if_neg e] at hn; exact i3 c hc hn
  · unfold hb_uf at hn e1 e2
    by_cases e3 : c = t
    · rw [if_pos e3] at hn; exact absurd rfl hn
    · rw [if_neg e3] at hn e1 e2
      by_cases e4 : d = t
      · rw [if_pos e4] at e1; exact absurd e1 hn
      · rw [if_neg e4] at e1 e2; exact i4 c d hc hd hn e1 e2
theorem bk_ch_pt {par pl ch : Int → Int} {t a p : Int} (h : bk_ch par pl ch) (ht : 0 ≤ t ∧ t < 40) (ha : 0 ≤ a ∧ a < 40) (hp : 0 ≤ p ∧ p < 4) (h1 : par t = -1) : bk_ch (hb_uf par t a) (hb_uf pl t p) (hb_uf ch (a * 4 + p) t) := by
  intro b q hb hq
  unfold hb_uf
  by_cases e : b * 4 + q = a * 4 + p
  · have e1 : b = a := by omega
    have e2 : q = p := by omega
    subst e1 e2
    rw [if_pos rfl, if_pos rfl, if_pos rfl]
    exact Or.inr ⟨ht, rfl, rfl⟩
  · rw [if_neg e]
    rcases h b q hb hq with ⟨h2, h3⟩ | ⟨h2, h3, h4⟩
    · refine Or.inl ⟨h2, fun c hc => ?_⟩
      by_cases e5 : c = t
      · rw [if_pos e5, if_pos e5]
        rintro ⟨rfl, rfl⟩; exact e rfl
      · rw [if_neg e5, if_neg e5]; exact h3 c hc
    · have e5 : ch (b * 4 + q) ≠ t := fun e5 => by rw [e5, h1] at h3; omega
      rw [if_neg e5, if_neg e5]
      exact Or.inr ⟨h2, h3, h4⟩
theorem bk_ch_tk {G : hb_G} {par pl ch : Int → Int} {t : Int} (hI : bk_TI G par pl) (h : bk_ch par pl ch) (ht : 0 ≤ t ∧ t < 40) (h1 : par t ≠ -1) : bk_ch (hb_uf par t (-1)) (hb_uf pl t (-1)) (hb_uf ch (par t * 4 + pl t) (-1)) := by
  obtain ⟨i1, i2, i3, i4⟩ := hI
  have hpl := (i3 t ht h1).1
  have hpa := bk_up i1 ht h1
  intro b q hb hq
  unfold hb_uf
  by_cases e : b * 4 + q = par t * 4 + pl t
  · have e1 : b = par t := by omega
    have e2 : q = pl t := by omega
    rw [if_pos e]
    refine Or.inl ⟨rfl, fun c hc => ?_⟩
    by_cases e5 : c = t
    · rw [if_pos e5]; rintro ⟨h8, h9⟩; omega
    · rw [if_neg e5, if_neg e5]; rintro ⟨h8, h9⟩
      exact e5 (i4 c t hc ht (by omega) (by omega) (by omega))
  · rw [if_neg e]
    rcases h b q hb hq with ⟨h2, h3⟩ | ⟨h2, h3, h4⟩
    · refine Or.inl ⟨h2, fun c hc => ?_⟩
      by_cases e5 : c = t
      · rw [if_pos e5]; rintro ⟨h8, h9⟩; omega
      · rw [if_neg e5, if_neg e5]; exact h3 c hc
    · have e5 : ch (b * 4 + q) ≠ t := fun e5 => by rw [e5] at h3 h4; exact e (by omega)
      rw [if_neg e5, if_neg e5]
      exact Or.inr ⟨h2, h3, h4⟩

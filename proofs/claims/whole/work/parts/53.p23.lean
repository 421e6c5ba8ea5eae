/-! sorted rows -/
theorem fc_part {v : Int} : ∀ {l : List Int}, l.Pairwise (· < ·) → l.filter (fun x => decide (x < v)) ++ l.filter (fun x => !decide (x < v)) = l
  | [], _ => rfl
  | x :: l, h => by
    have h1 := List.pairwise_cons.mp h
    by_cases e : x < v
    · rw [List.filter_cons_of_pos (by simpa using e), List.filter_cons_of_neg (by simpa using e), List.cons_append, fc_part h1.2]
    · have e1 : l.filter (fun x => decide (x < v)) = [] := List.filter_eq_nil_iff.mpr (fun y hy => by have := h1.1 y hy; simp; omega)
      have e2 : l.filter (fun x => !decide (x < v)) = l := List.filter_eq_self.mpr (fun y hy => by have := h1.1 y hy; simp; omega)
      rw [List.filter_cons_of_neg (by simpa using e), List.filter_cons_of_pos (by simp; omega), e1, e2]
      rfl
noncomputable def fc_s (C : Nat → Prop) (v : Nat → Int) (q : Nat) : List Int := match q with
  | 0 => []
  | q + 1 => @ite (List Int) (C q) (Classical.propDecidable _) ((fc_s C v q).filter (fun x => decide (x < v q)) ++ v q :: (fc_s C v q).filter (fun x => !decide (x < v q))) (fc_s C v q)
noncomputable def fc_r (C : Nat → Prop) (v : Nat → Int) (f : Int → Int) (q : Nat) : Int → Int := match q with
  | 0 => f
  | q + 1 => @ite (Int → Int) (C q) (Classical.propDecidable _) (hb_zs (fc_r C v f q) ((fc_s C v q).length : Nat) (((fc_s C v q).filter (fun x => decide (x < v q))).length : Nat) (v q)) (fc_r C v f q)
noncomputable def fc_l (C : Nat → Prop) (v : Nat → Int) (q : Nat) : List Int := match q with
  | 0 => []
  | q + 1 => @ite (List Int) (C q) (Classical.propDecidable _) (fc_l C v q ++ [v q]) (fc_l C v q)
noncomputable def fc_u (C : Nat → Prop) (v : Nat → Int) (f : Int → Int) (q : Nat) : Int → Int := match q with
  | 0 => f
  | q + 1 => @ite (Int → Int) (C q) (Classical.propDecidable _) (hb_uf (fc_u C v f q) ((fc_l C v q).length : Nat) (v q)) (fc_u C v f q)
def fc_inj (C : Nat → Prop) (v : Nat → Int) : Prop := ∀ i j : Nat, i < 640 → j < 640 → C i → C j → v i = v j → i = j
theorem fc_s_mem {C : Nat → Prop} {v : Nat → Int} {x : Int} : ∀ {q : Nat}, x ∈ fc_s C v q ↔ ∃ j, j < q ∧ C j ∧ x = v j
  | 0 => ⟨fun h => (nomatch h), fun ⟨j, h, _⟩ => absurd h (Nat.not_lt_zero _)⟩
  | q + 1 => by
    unfold fc_s
    by_cases e : C q
    · rw [if_pos e]
      have hh : x ∈ (fc_s C v q).filter (fun x => decide (x < v q)) ++ v q :: (fc_s C v q).filter (fun x => !decide (x < v q)) ↔ x = v q ∨ x ∈ fc_s C v q := by
        simp only [List.mem_append, List.mem_cons, List.mem_filter, decide_eq_true_eq, Bool.not_eq_true', decide_eq_false_iff_not]
        constructor
        · rintro (h | h | h)
          · exact Or.inr h.1
          · exact Or.inl h
          · exact Or.inr h.1
        · rintro (h | h)
          · exact Or.inr (Or.inl h)
          · by_cases h9 : x < v q
            · exact Or.inl ⟨h, h9⟩
            · exact Or.inr (Or.inr ⟨h, h9⟩)
      rw [hh, fc_s_mem]
      constructor
      · rintro (h | ⟨j, h1, h2, h3⟩)
        · exact ⟨q, by omega, e, h⟩
        · exact ⟨j, by omega, h2, h3⟩
      · rintro ⟨j, h1, h2, h3⟩
        by_cases hj : j = q
        · subst hj; exact Or.inl h3
        · exact Or.inr ⟨j, by omega, h2, h3⟩
    · rw [if_neg e, fc_s_mem]
      constructor
      · rintro ⟨j, h1, h2, h3⟩; exact ⟨j, by omega, h2, h3⟩
      · rintro ⟨j, h1, h2, h3⟩
        have : j ≠ q := fun h => e (h ▸ h2)
        exact ⟨j, by omega, h2, h3⟩
theorem fc_l_mem {C : Nat → Prop} {v : Nat → Int} {x : Int} : ∀ {q : Nat}, x ∈ fc_l C v q ↔ ∃ j, j < q ∧ C j ∧ x = v j
  | 0 => ⟨fun h => (nomatch h), fun ⟨j, h, _⟩ => absurd h (Nat.not_lt_zero _)⟩
  | q + 1 => by
    unfold fc_l
    by_cases e : C q
    · rw [if_pos e, List.mem_append, fc_l_mem, List.mem_singleton]
      constructor
      · rintro (⟨j, h1, h2, h3⟩ | h)
        · exact ⟨j, by omega, h2, h3⟩
        · exact ⟨q, by omega, e, h⟩
      · rintro ⟨j, h1, h2, h3⟩
        by_cases hj : j = q
        · subst hj; exact Or.inr h3
        · exact Or.inl ⟨j, by omega, h2, h3⟩
    · rw [if_neg e, fc_l_mem]
      constructor
      · rintro ⟨j, h1, h2, h3⟩; exact ⟨j, by omega, h2, h3⟩
      · rintro ⟨j, h1, h2, h3⟩
        have : j ≠ q := fun h => e (h ▸ h2)
        exact ⟨j, by omega, h2, h3⟩
theorem fc_s_so {C : Nat → Prop} {v : Nat → Int} (hi : fc_inj C v) : ∀ {q : Nat}, q ≤ 640 → (fc_s C v q).Pairwise (· < ·)
  | 0, _ => List.Pairwise.nil
  | q + 1, hq => by
    have ih := fc_s_so hi (q := q) (by omega)
    unfold fc_s
    by_cases e : C q
    · rw [if_pos e]
      refine List.pairwise_append.mpr ⟨ih.filter _, List.pairwise_cons.mpr ⟨fun y hy => ?_, ih.filter _⟩, fun x hx y hy => ?_⟩
      · have h1 := List.mem_filter.mp hy
        obtain ⟨j, h2, h3, h4⟩ := fc_s_mem.mp h1.1
        have h5 : ¬ y < v q := by simpa using h1.2
        have h6 : v j ≠ v q := fun h => by have := hi j q (by omega) (by omega) h3 e h; omega
        omega
      · have h1 : x < v q := by simpa using (List.mem_filter.mp hx).2
        rcases List.mem_cons.mp hy with h2 | h2
        · rw [h2]; exact h1
        · have h3 : ¬ y < v q := by simpa using (List.mem_filter.mp h2).2
          omega
    · rw [if_neg e]; exact ih
theorem fc_s_len {C : Nat → Prop} {v : Nat → Int} : ∀ {q : Nat}, (fc_s C v q).length = (fc_l C v q).length ∧ (fc_l C v q).length ≤ q
  | 0 => ⟨rfl, Nat.le_refl _⟩
  | q + 1 => by
    have ih := fc_s_len (C := C) (v := v) (q := q)
    unfold fc_s fc_l
    by_cases e : C q
    · rw [if_pos e, if_pos e]
      have h : ((fc_s C v q).filter (fun x => decide (x < v q))).length + ((fc_s C v q).filter (fun x => !decide (x < v q))).length = (fc_s C v q).length := by
        have := (List.filter_append_perm (fun x => decide (x < v q)) (fc_s C v q)).length_eq
        rw [List.length_append] at this
        exact this
      simp only [List.length_append, List.length_cons, List.length_nil]
      omega
    · rw [if_neg e, if_neg e]; omega
theorem fc_s_row {C : Nat → Prop} {v : Nat → Int} {f : Int → Int} (hi : fc_inj C v) : ∀ {q : Nat}, q ≤ 640 → ∀ (k : Nat) (x : Int), (fc_s C v q)[k]? = some x → fc_r C v f q k = x
  | 0, _, k, x, h => by simp [fc_s] at h
  | q + 1, hq, k, x, h => by
    have ih := fc_s_row (f := f) hi (q := q) (by omega)
    have so := fc_s_so hi (q := q) (by omega)
    have pa := fc_part (v := v q) so
    have hl : ((fc_s C v q).filter (fun x => decide (x < v q))).length ≤ (fc_s C v q).length := List.length_filter_le ..
    have hlen : ((fc_s C v q).filter (fun x => decide (x < v q))).length + ((fc_s C v q).filter (fun x => !decide (x < v q))).length = (fc_s C v q).length := by
      rw [← List.length_append, pa]
    unfold fc_s at h
    unfold fc_r
    by_cases e : C q
    · rw [if_pos e] at h ⊢
      unfold hb_zs
      by_cases k1 : (k : Int) = ((((fc_s C v q).filter (fun x => decide (x < v q))).length : Nat) : Int)
      · rw [if_pos k1]
        have : k = ((fc_s C v q).filter (fun x => decide (x < v q))).length := by omega
        rw [this, List.getElem?_append_right (Nat.le_refl _), Nat.sub_self] at h
        have h : some (v q) = some x := h
        cases h; rfl
      · rw [if_neg k1]
        rcases Nat.lt_or_ge k ((fc_s C v q).filter (fun x => decide (x < v q))).length with k2 | k2
        · rw [if_neg (by omega)]
          rw [List.getElem?_append_left k2] at h
          exact ih k x (by rw [← pa, List.getElem?_append_left k2]; exact h)
        · rw [List.getElem?_append_right k2] at h
          obtain ⟨j, hj⟩ : ∃ j, k - ((fc_s C v q).filter (fun x => decide (x < v q))).length = j + 1 := ⟨k - ((fc_s C v q).filter (fun x => decide (x < v q))).length - 1, by omega⟩
          rw [hj, List.getElem?_cons_succ] at h
          have hkl := (List.getElem?_eq_some_iff.mp h).1
          rw [if_pos (by omega)]
          have h9 := ih (k - 1) x (by rw [← pa, List.getElem?_append_right (by omega), show k - 1 - ((fc_s C v q).filter (fun x => decide (x < v q))).length = j by omega]; exact h)
          rw [show ((k - 1 : Nat) : Int) = (k : Int) - 1 by omega] at h9
          exact h9
    · rw [if_neg e] at h ⊢; exact ih k x h
theorem fc_l_row {C : Nat → Prop} {v : Nat → Int} {f : Int → Int} : ∀ {q : Nat} (k : Nat) (x : Int), (fc_l C v q)[k]? = some x → fc_u C v f q k = x
  | 0, k, x, h => by simp [fc_l] at h
  | q + 1, k, x, h => by
    unfold fc_l at h
    unfold fc_u
    by_cases e : C q
    · rw [if_pos e] at h ⊢
      unfold hb_uf
      by_cases k1 : (k : Int) = (((fc_l C v q).length : Nat) : Int)
      · rw [if_pos k1]
        have : k = (fc_l C v q).length := by omega
        rw [this, List.getElem?_append_right (Nat.le_refl _), Nat.sub_self] at h
        have h : some (v q) = some x := h
        cases h; rfl
      · rw [if_neg k1]
        have hk := (List.getElem?_eq_some_iff.mp h).1
        simp only [List.length_append, List.length_cons, List.length_nil] at hk
        rw [List.getElem?_append_left (by omega)] at h
        exact fc_l_row k x h
    · rw [if_neg e] at h ⊢; exact fc_l_row k x h
theorem fc_r_rg {C : Nat → Prop} {v : Nat → Int} {f : Int → Int} (hf : ∀ i, hb_in (f i)) (hv : ∀ j, C j → hb_in (v j)) : ∀ {q : Nat} (i : Int), hb_in (fc_r C v f q i)
  | 0, i => hf i
  | q + 1, i => by
    unfold fc_r
    by_cases e : C q
    · rw [if_pos e]; unfold hb_zs
      split
      · exact hv q e
      · split <;> exact fc_r_rg hf hv _
    · rw [if_neg e]; exact fc_r_rg hf hv _
theorem fc_u_rg {C : Nat → Prop} {v : Nat → Int} {f : Int → Int} (hf : ∀ i, hb_in (f i)) (hv : ∀ j, C j → hb_in (v j)) : ∀ {q : Nat} (i : Int), hb_in (fc_u C v f q i)
  | 0, i => hf i
  | q + 1, i => by
    unfold fc_u
    by_cases e : C q
    · rw [if_pos e]; unfold hb_uf
      split
      · exact hv q e
      · exact fc_u_rg hf hv _
    · rw [if_neg e]; exact fc_u_rg hf hv _
theorem fc_l_nd {C : Nat → Prop} {v : Nat → Int} (hi : fc_inj C v) : ∀ {q : Nat}, q ≤ 640 → (fc_l C v q).Nodup
  | 0, _ => List.Pairwise.nil
  | q + 1, hq => by
    have ih := fc_l_nd hi (q := q) (by omega)
    unfold fc_l
    by_cases e : C q
    · rw [if_pos e]
      refine List.nodup_append.mpr ⟨ih, by simp, fun x hx y hy h => ?_⟩
      rw [List.mem_singleton.mp hy] at h
      obtain ⟨j, h2, h3, h4⟩ := fc_l_mem.mp hx
      have := hi j q (by omega) (by omega) h3 e (by rw [← h4]; exact h)
      omega
    · rw [if_neg e]; exact ih
theorem fc_perm {C : Nat → Prop} {v : Nat → Int} (hi : fc_inj C v) : (fc_s C v 640).Perm (fc_l C v 640) :=
  (List.perm_ext_iff_of_nodup ((fc_s_so hi (Nat.le_refl _)).imp (fun {a b} h e => by subst e; omega)) (fc_l_nd hi (Nat.le_refl _))).mpr fun x => by rw [fc_s_mem, fc_l_mem]
theorem fc_ct {L : List Int} {f : Int → Int} (hf : ∀ (k : Nat) (x : Int), L[k]? = some x → f k = x) {w : Int} : ∀ {j : Nat}, j ≤ L.length → hb_ct f w j = (((L.take j).filter (fun x => decide (x < w))).length : Nat)
  | 0, _ => by simp [hb_ct]
  | j + 1, hj => by
    have hjl : j < L.length := by omega
    have ih := fc_ct hf (w := w) (j := j) (by omega)
    have hg := hf j _ (List.getElem?_eq_getElem hjl)
    unfold hb_ct
    rw [ih, hg, List.take_succ_eq_append_getElem hjl, List.filter_append, List.length_append]
    by_cases e : L[j] < w
    · rw [if_pos e, List.filter_cons_of_pos (by simpa using e)]; simp
    · rw [if_neg e, List.filter_cons_of_neg (by simpa using e)]; simp
theorem fc_fr {f : Int → Int} {N : Nat} {i x : Int} (hx : ∀ k : Nat, k < N → hb_ct f (f k) N = i → f k = x) : ∀ {r k : Nat}, k + r = N → (∃ j, k ≤ j ∧ j < N ∧ hb_ct f (f j) N = i) → hb_fr f N i r k = x
  | 0, k, h, ⟨j, h1, h2, _⟩ => by omega
  | r + 1, k, h, ⟨j, h1, h2, h3⟩ => by
    unfold hb_fr
    by_cases e : hb_ct f (f k) N = i
    · rw [if_pos e]; exact hx k (by omega) e
    · rw [if_neg e]
      have : j ≠ k := fun h9 => e (h9 ▸ h3)
      exact fc_fr hx (by omega) ⟨j, by omega, h2, h3⟩
theorem fc_fr_n {f : Int → Int} {N : Nat} {i : Int} : ∀ {r k : Nat}, (∀ j, k ≤ j → j < k + r → hb_ct f (f j) N ≠ i) → hb_fr f N i r k = -1
  | 0, k, h => rfl
  | r + 1, k, h => by
    unfold hb_fr
    rw [if_neg (h k (Nat.le_refl _) (by omega))]
    exact fc_fr_n (fun j h1 h2 => h j (by omega) (by omega))
theorem fc_so_c2 {a b : List Int} {y : Int} (h : (a ++ y :: b).Pairwise (· < ·)) : ((a ++ y :: b).filter (fun x => decide (x < y))).length = a.length := by
  have hpa := List.pairwise_append.mp h
  have e1 : a.filter (fun x => decide (x < y)) = a := List.filter_eq_self.mpr (fun z hz => by have := hpa.2.2 z hz y List.mem_cons_self; simpa using this)
  have e2 : (y :: b).filter (fun x => decide (x < y)) = [] := List.filter_eq_nil_iff.mpr (fun z hz => by
    rcases List.mem_cons.mp hz with h9 | h9
    · rw [h9]; simp
    · have := (List.pairwise_cons.mp hpa.2.1).1 z h9; simp; omega)
  rw [List.filter_append, e1, e2, List.append_nil]
theorem fc_so_ct {s : List Int} (h : s.Pairwise (· < ·)) {k : Nat} {y : Int} (hk : s[k]? = some y) : (s.filter (fun x => decide (x < y))).length = k := by
  obtain ⟨hl, he⟩ := List.getElem?_eq_some_iff.mp hk
  have hc : s = s.take k ++ y :: s.drop (k + 1) := by rw [← he, ← List.drop_eq_getElem_cons hl, List.take_append_drop]
  have h2 : (s.take k).length = k := by rw [List.length_take]; omega
  rw [hc] at h
  have h3 := fc_so_c2 h
  rw [← hc, h2] at h3
  exact h3
/-- the answer of both -/
theorem fc_eq {C : Nat → Prop} {v : Nat → Int} (hi : fc_inj C v) {f g : Int → Int} {i : Int} : hb_fr (fc_u C v g 640) (fc_l C v 640).length i (fc_l C v 640).length 0 = if 0 ≤ i ∧ i < ((fc_s C v 640).length : Nat) then fc_r C v f 640 i else -1 := by
  have hrow := fc_l_row (C := C) (v := v) (f := g) (q := 640)
  have so := fc_s_so hi (Nat.le_refl 640)
  have hp := fc_perm hi
  have hct : ∀ (k : Nat) (y : Int), (fc_l C v 640)[k]? = some y → hb_ct (fc_u C v g 640) (fc_u C v g 640 k) (fc_l C v 640).length = (((fc_s C v 640).filter (fun x => decide (x < y))).length : Nat) := fun k y hk => by
    rw [hrow k y hk, fc_ct hrow (Nat.le_refl _), List.take_length, (hp.filter _).length_eq]
  by_cases h : 0 ≤ i ∧ i < ((fc_s C v 640).length : Nat)
  · rw [if_pos h]
    have hil : i.toNat < (fc_s C v 640).length := by omega
    have hg := List.getElem?_eq_getElem hil
    have hin : ((i.toNat : Nat) : Int) = i := Int.toNat_of_nonneg h.1
    have hr := fc_s_row (f := f) hi (Nat.le_refl 640) i.toNat _ hg
    rw [hin] at hr
    rw [hr]
    refine fc_fr (fun k hk hc => ?_) (by omega) ?_
    · have hgk := List.getElem?_eq_getElem hk
      rw [hct k _ hgk] at hc
      rw [hrow k _ hgk]
      have hm : (fc_l C v 640)[k] ∈ fc_s C v 640 := hp.mem_iff.mpr (List.getElem_mem hk)
      obtain ⟨j, hj1, hj2⟩ := List.getElem_of_mem hm
      have h5 := fc_so_ct so (k := j) (y := (fc_l C v 640)[k]) (by rw [List.getElem?_eq_getElem hj1, hj2])
      have h6 : j = i.toNat := by omega
      subst h6
      exact hj2.symm
    · have hm : (fc_s C v 640)[i.toNat] ∈ fc_l C v 640 := hp.mem_iff.mp (List.getElem_mem hil)
      obtain ⟨j, hj1, hj2⟩ := List.getElem_of_mem hm
      refine ⟨j, Nat.zero_le _, hj1, ?_⟩
      rw [hct j _ (by rw [List.getElem?_eq_getElem hj1, hj2]), fc_so_ct so hg]
      exact hin
  · rw [if_neg h]
    refine fc_fr_n (fun j _ hj => ?_)
    have hgk := List.getElem?_eq_getElem (show j < (fc_l C v 640).length by omega)
    rw [hct j _ hgk]
    have hm : (fc_l C v 640)[j]'(by omega) ∈ fc_s C v 640 := hp.mem_iff.mpr (List.getElem_mem _)
    obtain ⟨k, hk1, hk2⟩ := List.getElem_of_mem hm
    have h5 := fc_so_ct so (k := k) (y := (fc_l C v 640)[j]'(by omega)) (by rw [List.getElem?_eq_getElem hk1, hk2])
    omega
/-! forecast -/
def fc_B (iv du cn day each : Int) : Int := if iv = 0 then 50000 else hb_on du cn day each
theorem fc_ol {least iv du cn day each : Int} (h : least ≤ 50000) : hb_ol least iv du cn day each = min least (fc_B iv du cn day each) := by
  unfold hb_ol fc_B
  split
  · omega
  · split <;> omega
theorem fc_ol3 {i0 i1 i2 d0 d1 d2 c0 c1 c2 x a b e : Int} : hb_ol (hb_ol (hb_ol 50000 i0 d0 c0 x a) i1 d1 c1 x b) i2 d2 c2 x e = min (min (min 50000 (fc_B i0 d0 c0 x a)) (fc_B i1 d1 c1 x b)) (fc_B i2 d2 c2 x e) := by
  have h1 : hb_ol 50000 i0 d0 c0 x a = min 50000 (fc_B i0 d0 c0 x a) := fc_ol (by omega)
  rw [h1]
  have h2 : hb_ol (min 50000 (fc_B i0 d0 c0 x a)) i1 d1 c1 x b = min (min 50000 (fc_B i0 d0 c0 x a)) (fc_B i1 d1 c1 x b) := fc_ol (by omega)
  rw [h2]
  exact fc_ol (by omega)
theorem fc_AB {iv du cn day each : Int} (h0 : 0 ≤ day ∧ day ≤ 30000) (he : 0 ≤ each) : (fc_B iv du cn day each ≤ 40000 → hb_fa iv du cn day each = fc_B iv du cn day each) ∧ (40000 < fc_B iv du cn day each → 40000 < hb_fa iv du cn day each) ∧ 0 ≤ fc_B iv du cn day each := by
  unfold hb_fa fc_B hb_on
  by_cases h1 : iv = 0
  · rw [if_pos h1, if_pos h1]; omega
  · rw [if_neg h1, if_neg h1]
    by_cases h2 : du - cn < 0
    · rw [if_pos h2, if_pos h2]; omega
    · rw [if_neg h2, if_neg h2]
      by_cases h3 : each = 0
      · rw [if_pos h3, if_pos h3]; omega
      · rw [if_neg h3, if_neg h3]
        have : 0 ≤ (du - cn) / each := Int.ediv_nonneg (by omega) he
        omega
noncomputable def fc_on (D : hb_G) (r : List Nat) (d aa cc t k : Int) : Int := min (min (min 50000 (fc_B (D 56 (3 * k + 0)) (bk_DU D 0 t k r) (bk_cv D r t 0 d) d aa)) (fc_B (D 56 (3 * k + 1)) (bk_DU D 1 t k r) (bk_cv D r t 1 d) d cc)) (fc_B (D 56 (3 * k + 2)) (bk_DU D 2 t k r) (bk_cv D r t 2 d) d 1)
theorem fc_onfo {D H K : hb_G} {n : Nat} {a b : List Nat} {d : Int} (hV : bk_V D H K n a b d) {t k aa cc : Int} (ht : 0 ≤ t ∧ t < 40) (hk : 0 ≤ k ∧ k < 16) (h1 : D 51 t ≠ -1) (h2 : D 55 k ≠ -1) (ha : 0 ≤ aa) (hc : 0 ≤ cc) : (fc_on D a.reverse d aa cc t k ≤ 40000 → hb_fo H t k d aa cc = fc_on D a.reverse d aa cc t k) ∧ (40000 < fc_on D a.reverse d aa cc t k → 40000 < hb_fo H t k d aa cc) ∧ 0 ≤ fc_on D a.reverse d aa cc t k ∧ fc_on D a.reverse d aa cc t k ≤ 50000 := by
  have c0 := bk_hcn hV ht h1 (u := 0) (by decide)
  have c1 := bk_hcn hV ht h1 (u := 1) (by decide)
  have c2 := bk_hcn hV ht h1 (u := 2) (by decide)
  obtain ⟨v1, v2, ⟨S1, S2, S3, S4, S5⟩, v4, v5, v6, v7, v8, v9, v10⟩ := hV
  have s3 := S3 t k ht hk h1 h2
  have l3 := v2.2.2.1 k hk
  have c0 : H 38 t = bk_cv D a.reverse t 0 d := c0
  have c1 : H 39 t = bk_cv D a.reverse t 1 d := c1
  have c2 : d - H 11 t = bk_cv D a.reverse t 2 d := c2
  unfold hb_fo fc_on
  rw [c0, c1, c2, s3.1, s3.2.1, s3.2.2, l3.2.1, l3.2.2.1, l3.2.2.2.1]
  have a0 := fc_AB (iv := D 56 (3 * k + 0)) (du := bk_DU D 0 t k a.reverse) (cn := bk_cv D a.reverse t 0 d) v10 ha
  have a1 := fc_AB (iv := D 56 (3 * k + 1)) (du := bk_DU D 1 t k a.reverse) (cn := bk_cv D a.reverse t 1 d) v10 hc
  have a2 := fc_AB (iv := D 56 (3 * k + 2)) (du := bk_DU D 2 t k a.reverse) (cn := bk_cv D a.reverse t 2 d) v10 (show (0 : Int) ≤ 1 by decide)
  omega
theorem fc_over {l : Launch} {D H K : hb_G} {F : hb_F} {na n : Nat} {a b : List Nat} {d : Int} (hV : bk_V D H K n a b d) (hK : hb_rg K) {t k aa cc : Int} (ht : 0 ≤ t ∧ t < 40) (hk : 0 ≤ k ∧ k < 16) (ha : 0 ≤ aa ∧ aa ≤ 1440) (hc : 0 ≤ cc ∧ cc ≤ 1440) : hb_M l yX9_overdueOn cX9_overdueOn 12 (some .int) 2 0 0 [hb_r 47, hb_i t, hb_i k, hb_i d, hb_i aa, hb_i cc] (hb_w K F na) (77 + na) (.inl (some (hb_i (fc_on D a.reverse d aa cc t k)))) (hb_w K F na) (77 + na) := by
  have hd := hV.2.2.2.2.2.2.2.2.2
  have w56 := hV.2.2.2.1.1 56 (by omega)
  have ci : ∀ u, -1000000000 ≤ hb_cj K t u (100 * d + 99) n ∧ hb_cj K t u (100 * d + 99) n ≤ 1000000000 := fun u => by
    rw [bk_cj hV]; have := bk_cv_b hV (u := u) ht; omega
  have di : ∀ u, 0 ≤ u ∧ u < 3 → -1000000000 ≤ bk_DU D u t k a.reverse ∧ bk_DU D u t k a.reverse ≤ 1000000000 := fun u hu => by
    have := bk_du_b hV ht hk hu; omega
  have h := c_mOverdueOn (l := l) (F := F) (na := na) (G := K) (n := n) ht hk hd ha hc hV.2.2.2.1.2.2.1 hV.2.2.2.1.2.2.2 (di 0 (by decide)) (ci 0) (fun _ => bk_dueAt hV hK ht hk (by decide)) (di 1 (by decide)) (ci 1) (fun _ => bk_dueAt hV hK ht hk (by decide)) (di 2 (by decide)) (ci 2) (fun _ => bk_dueAt hV hK ht hk (by decide)) hK
  rw [bk_cj hV, bk_cj hV, bk_cj hV, w56] at h
  rw [fc_ol3] at h
  exact h
def fc_C (H : hb_G) (m d aa cc : Int) (j : Nat) : Prop := hb_it H m ((j / 16 : Nat) : Int) ∧ hb_ak H ((j / 16 : Nat) : Int) ((j % 16 : Nat) : Int) ∧ hb_fo H ((j / 16 : Nat) : Int) ((j % 16 : Nat) : Int) d aa cc ≤ 40000
def fc_v (H : hb_G) (d aa cc : Int) (j : Nat) : Int := (hb_fo H ((j / 16 : Nat) : Int) ((j % 16 : Nat) : Int) d aa cc * 40 + ((j / 16 : Nat) : Int)) * 16 + ((j % 16 : Nat) : Int)
theorem fc_j {t k : Nat} (hk : k < 16) : (t * 16 + k) / 16 = t ∧ (t * 16 + k) % 16 = k := by omega
theorem fc_fa0 {iv du cn day pace : Int} (h : 0 ≤ day) (hp : 0 ≤ pace) : 0 ≤ hb_fa iv du cn day pace := by
  unfold hb_fa
  split
  · omega
  · split
    · exact h
    · split
      · omega
      · have : 0 ≤ (du - cn) / pace := Int.ediv_nonneg (by omega) hp
        omega
theorem fc_fo0 {H : hb_G} {t k d aa cc : Int} (hd : 0 ≤ d) (ha : 0 ≤ aa) (hc : 0 ≤ cc) : 0 ≤ hb_fo H t k d aa cc := by
  unfold hb_fo
  have h1 := fc_fa0 (iv := H 15 k) (du := H 41 (t * 16 + k)) (cn := H 38 t) hd ha
  have h2 := fc_fa0 (iv := H 16 k) (du := H 42 (t * 16 + k)) (cn := H 39 t) hd hc
  have h3 := fc_fa0 (iv := H 17 k) (du := H 43 (t * 16 + k)) (cn := d - H 11 t) hd (show (0 : Int) ≤ 1 by decide)
  omega
theorem fc_injC {H : hb_G} {m d aa cc : Int} : fc_inj (fc_C H m d aa cc) (fc_v H d aa cc) := by
  intro i j hi hj _ _ h
  unfold fc_v at h
  omega
theorem fc_vin {H : hb_G} {m d aa cc : Int} (hd : 0 ≤ d) (ha : 0 ≤ aa) (hc : 0 ≤ cc) : ∀ j, fc_C H m d aa cc j → hb_in (fc_v H d aa cc j) := by
  intro j hC
  have h1 := fc_fo0 (H := H) (t := ((j / 16 : Nat) : Int)) (k := ((j % 16 : Nat) : Int)) hd ha hc
  have h2 := hC.2.2
  have h3 := hC.1.1
  have h4 : 0 ≤ ((j / 16 : Nat) : Int) ∧ ((j / 16 : Nat) : Int) < 40 := ⟨h3.1, h3.2.1⟩
  unfold fc_v
  constructor <;> omega
/-- the class's row, pair by pair -/
noncomputable def fc_X (H : hb_G) (m d aa cc : Int) (q : Nat) : hb_G := hb_u1 H 46 (fc_r (fc_C H m d aa cc) (fc_v H d aa cc) (H 46) q)
theorem fc_X_rg {H : hb_G} (hH : hb_rg H) {m d aa cc : Int} (hd : 0 ≤ d) (ha : 0 ≤ aa) (hc : 0 ≤ cc) {q : Nat} : hb_rg (fc_X H m d aa cc q) := by
  intro p i
  unfold fc_X
  by_cases h : p = 46
  · subst h; rw [hb_u1_s]; exact fc_r_rg (fun i => hH _ _) (fc_vin hd ha hc) i
  · rw [hb_u1_n h]; exact hH _ _
theorem fc_cls {l : Launch} {G H : hb_G} {F : hb_F} {na : Nat} {m d aa cc i : Int} (im : hb_in m) (id : hb_in d) (ia : hb_in aa) (ic : hb_in cc) (ii : hb_in i) (hP : hb_im G m ∧ (0 ≤ d ∧ d ≤ 30000) ∧ 0 ≤ i ∧ (0 ≤ aa ∧ aa ≤ 1440) ∧ (0 ≤ cc ∧ cc ≤ 1440)) (hS : hb_M l yX4_show cX4_show 2 none 4 0 0 [hb_r 32, hb_i (d * 100 + 100 - 1)] (hb_w G F na) (77 + na) (.inl none) (hb_w H F na) (77 + na)) (hG : hb_rg G) (hH : hb_rg H) (hB : hb_bn H) (htr : hb_tr (H 34)) : hb_M l yX8_forecast cX8_forecast 8 (some .int) 6 0 0 [hb_r 0, hb_i m, hb_i d, hb_i aa, hb_i cc, hb_i i] (hb_w G F na) (77 + na) (.inl (some (hb_i (if i < ((fc_s (fc_C H m d aa cc) (fc_v H d aa cc) 640).length : Nat) then fc_r (fc_C H m d aa cc) (fc_v H d aa cc) (H 46) 640 i else -1)))) (hb_w (fc_X H m d aa cc 640) F na) (77 + na) := by
  have hrg := fun q => fc_X_rg (m := m) (q := q) hH hP.2.1.1 hP.2.2.2.1.1 hP.2.2.2.2.1
  have hbn : ∀ q, hb_bn (fc_X H m d aa cc q) := fun q => bk_bn_c (fun p hp => by unfold fc_X; exact hb_u1_n (by omega)) hB
  have hX0 : fc_X H m d aa cc 0 = H := by unfold fc_X fc_r; exact hb_u1_id H 46
  have hso := fun q hq => fc_s_so (fc_injC (H := H) (m := m) (d := d) (aa := aa) (cc := cc)) (q := q) hq
  have hstep : ∀ q : Nat, ¬ fc_C H m d aa cc q → fc_X H m d aa cc (q + 1) = fc_X H m d aa cc q ∧ (fc_s (fc_C H m d aa cc) (fc_v H d aa cc) (q + 1)).length = (fc_s (fc_C H m d aa cc) (fc_v H d aa cc) q).length := fun q hq => by
    constructor
    · unfold fc_X
      conv => lhs; unfold fc_r
      rw [if_neg hq]
    · conv => lhs; unfold fc_s
      rw [if_neg hq]
  have hY := c_forecastY (l := l) (F := F) (na := na) (SS := fun t => fc_X H m d aa cc (t * 16)) (nn := fun t => (fc_s (fc_C H m d aa cc) (fc_v H d aa cc) (t * 16)).length) im id ia ic ii hP (by rw [show fc_X H m d aa cc (0 * 16) = H from hX0]; exact hS) (fun t _ => hrg _) (fun t _ => htr) rfl
    (fun t ht => by
      by_cases hit : hb_it H m t
      · refine Or.inr ⟨hit, ?_⟩
        have hT := c_forecastThing (l := l) (F := F) (na := na) (G := fc_X H m d aa cc (t * 16)) (t := t) (d := d) (m := aa) (c := cc) (SS := fun k => fc_X H m d aa cc (t * 16 + k)) (nn := fun k => (fc_s (fc_C H m d aa cc) (fc_v H d aa cc) (t * 16 + k)).length) (by omega) hP.2.1 hP.2.2.2.1 hP.2.2.2.2 rfl (fun k _ => hrg _) (fun k _ => hbn _)
          (fun k hk => by
            obtain ⟨e1, e2⟩ := fc_j (t := t) hk
            by_cases hak : hb_ak H t k
            · by_cases hfo : hb_fo H t k d aa cc ≤ 40000
              · refine Or.inr (Or.inr ⟨hak, hfo, ?_, ?_⟩)
                · have hC : fc_C H m d aa cc (t * 16 + k) := by unfold fc_C; rw [e1, e2]; exact ⟨hit, hak, hfo⟩
                  show (fc_s _ _ (t * 16 + k + 1)).length = _
                  conv => lhs; unfold fc_s
                  rw [if_pos hC]
                  have := congrArg List.length (fc_part (v := fc_v H d aa cc (t * 16 + k)) (hso (t * 16 + k) (by omega)))
                  rw [List.length_append] at this
                  rw [List.length_append, List.length_cons]
                  omega
                · have hC : fc_C H m d aa cc (t * 16 + k) := by unfold fc_C; rw [e1, e2]; exact ⟨hit, hak, hfo⟩
                  have hv : (hb_fo H t k d aa cc * 40 + (t : Int)) * 16 + (k : Int) = fc_v H d aa cc (t * 16 + k) := by unfold fc_v; rw [e1, e2]
                  have hlen := fc_s_len (C := fc_C H m d aa cc) (v := fc_v H d aa cc) (q := t * 16 + k)
                  have hrow := fc_s_row (f := H 46) (fc_injC (H := H) (m := m) (d := d) (aa := aa) (cc := cc)) (q := t * 16 + k) (by omega)
                  have pa := fc_part (v := fc_v H d aa cc (t * 16 + k)) (hso (t * 16 + k) (by omega))
                  have hfl := congrArg List.length pa
                  rw [List.length_append] at hfl
                  have hSI := c_sortIn (l := l) (F := F) (na := na) (G := fc_X H m d aa cc (t * 16 + k)) (v := fc_v H d aa cc (t * 16 + k)) (n := ((fc_s (fc_C H m d aa cc) (fc_v H d aa cc) (t * 16 + k)).length : Nat)) (i := (((fc_s (fc_C H m d aa cc) (fc_v H d aa cc) (t * 16 + k)).filter (fun x => decide (x < fc_v H d aa cc (t * 16 + k)))).length : Nat)) (fc_vin hP.2.1.1 hP.2.2.2.1.1 hP.2.2.2.2.1 _ hC) (by omega) (by omega)
                    (fun z hz => by
                      have hz2 : z.toNat < (fc_s (fc_C H m d aa cc) (fc_v H d aa cc) (t * 16 + k)).length := by omega
                      obtain ⟨x, hx⟩ : ∃ x, (fc_s (fc_C H m d aa cc) (fc_v H d aa cc) (t * 16 + k))[z.toNat]? = some x := ⟨_, List.getElem?_eq_getElem hz2⟩
                      have hr := hrow z.toNat x hx
                      rw [Int.toNat_of_nonneg (by omega)] at hr
                      show _ < hb_u1 H 46 _ 46 z
                      rw [hb_u1_s, hr]
                      have hm9 : x ∈ fc_s (fc_C H m d aa cc) (fc_v H d aa cc) (t * 16 + k) := List.mem_of_getElem? hx
                      rw [← pa, List.getElem?_append_right (by omega)] at hx
                      have h9 : ¬ x < fc_v H d aa cc (t * 16 + k) := by simpa using (List.mem_filter.mp (List.mem_of_getElem? hx)).2
                      obtain ⟨j, j1, j2, j3⟩ := fc_s_mem.mp hm9
                      have h8 : fc_v H d aa cc j ≠ fc_v H d aa cc (t * 16 + k) := fun h => by
                        have := fc_injC (H := H) (m := m) (d := d) (aa := aa) (cc := cc) j (t * 16 + k) (by omega) (by omega) j2 hC h
                        omega
                      omega)
                    (by
                      by_cases hz : ((fc_s (fc_C H m d aa cc) (fc_v H d aa cc) (t * 16 + k)).filter (fun x => decide (x < fc_v H d aa cc (t * 16 + k)))).length = 0
                      · exact Or.inl (by omega)
                      · refine Or.inr ⟨by omega, ?_⟩
                        have hz2 : ((fc_s (fc_C H m d aa cc) (fc_v H d aa cc) (t * 16 + k)).filter (fun x => decide (x < fc_v H d aa cc (t * 16 + k)))).length - 1 < (fc_s (fc_C H m d aa cc) (fc_v H d aa cc) (t * 16 + k)).length := by omega
                        obtain ⟨x, hx⟩ : ∃ x, (fc_s (fc_C H m d aa cc) (fc_v H d aa cc) (t * 16 + k))[((fc_s (fc_C H m d aa cc) (fc_v H d aa cc) (t * 16 + k)).filter (fun x => decide (x < fc_v H d aa cc (t * 16 + k)))).length - 1]? = some x := ⟨_, List.getElem?_eq_getElem hz2⟩
                        have hr := hrow _ x hx
                        rw [show (((((fc_s (fc_C H m d aa cc) (fc_v H d aa cc) (t * 16 + k)).filter (fun x => decide (x < fc_v H d aa cc (t * 16 + k)))).length - 1 : Nat)) : Int) = ((((fc_s (fc_C H m d aa cc) (fc_v H d aa cc) (t * 16 + k)).filter (fun x => decide (x < fc_v H d aa cc (t * 16 + k)))).length : Nat) : Int) - 1 by omega] at hr
                        show hb_u1 H 46 _ 46 _ ≤ _
                        rw [hb_u1_s, hr]
                        have hx2 : ((fc_s (fc_C H m d aa cc) (fc_v H d aa cc) (t * 16 + k)).filter (fun x => decide (x < fc_v H d aa cc (t * 16 + k))) ++ (fc_s (fc_C H m d aa cc) (fc_v H d aa cc) (t * 16 + k)).filter (fun x => !decide (x < fc_v H d aa cc (t * 16 + k))))[((fc_s (fc_C H m d aa cc) (fc_v H d aa cc) (t * 16 + k)).filter (fun x => decide (x < fc_v H d aa cc (t * 16 + k)))).length - 1]? = some x := by rw [pa]; exact hx
                        rw [List.getElem?_append_left (by omega)] at hx2
                        have h9 : x < fc_v H d aa cc (t * 16 + k) := by simpa using (List.mem_filter.mp (List.mem_of_getElem? hx2)).2
                        omega)
                    (hrg _)
                  have hX1 : hb_u1 (fc_X H m d aa cc (t * 16 + k)) 46 (hb_zs (fc_X H m d aa cc (t * 16 + k) 46) ((fc_s (fc_C H m d aa cc) (fc_v H d aa cc) (t * 16 + k)).length : Nat) (((fc_s (fc_C H m d aa cc) (fc_v H d aa cc) (t * 16 + k)).filter (fun x => decide (x < fc_v H d aa cc (t * 16 + k)))).length : Nat) (fc_v H d aa cc (t * 16 + k))) = fc_X H m d aa cc (t * 16 + k + 1) := by
                    unfold fc_X
                    rw [hb_u1_s, hb_u1_u1]
                    conv => rhs; unfold fc_r
                    rw [if_pos hC]
                  rw [hX1] at hSI
                  show hb_M l yX8_sortIn cX8_sortIn 4 none 0 0 0 [hb_r 0, hb_i ((hb_fo H t k d aa cc * 40 + (t : Int)) * 16 + (k : Int)), _] _ _ _ _ _
                  rw [hv]
                  exact hSI
              · obtain ⟨h1, h2⟩ := hstep (t * 16 + k) (fun h => hfo (by unfold fc_C at h; rw [e1, e2] at h; exact h.2.2))
                exact Or.inr (Or.inl ⟨hak, by show 40000 < hb_fo H t k d aa cc; omega, h1, h2⟩)
            · obtain ⟨h1, h2⟩ := hstep (t * 16 + k) (fun h => hak (by unfold fc_C at h; rw [e1, e2] at h; exact h.2.1))
              exact Or.inl ⟨hak, h1, h2⟩)
        have e16 : (t + 1) * 16 = t * 16 + 16 := by omega
        show hb_M l _ _ _ _ _ _ _ _ _ _ (.inl (some (hb_i (((fc_s (fc_C H m d aa cc) (fc_v H d aa cc) ((t + 1) * 16)).length : Nat) : Int)))) (hb_w (fc_X H m d aa cc ((t + 1) * 16)) F na) _
        rw [e16]
        exact hT
      · refine Or.inl ⟨hit, ?_⟩
        have hno : ∀ k : Nat, k ≤ 16 → fc_X H m d aa cc (t * 16 + k) = fc_X H m d aa cc (t * 16) ∧ (fc_s (fc_C H m d aa cc) (fc_v H d aa cc) (t * 16 + k)).length = (fc_s (fc_C H m d aa cc) (fc_v H d aa cc) (t * 16)).length := by
          intro k
          induction k with
          | zero => intro _; exact ⟨rfl, rfl⟩
          | succ k ih =>
            intro hk
            obtain ⟨e1, e2⟩ := fc_j (t := t) (show k < 16 by omega)
            obtain ⟨h1, h2⟩ := hstep (t * 16 + k) (fun h => hit (by unfold fc_C at h; rw [e1] at h; exact h.1))
            obtain ⟨i1, i2⟩ := ih (by omega)
            exact ⟨h1.trans i1, h2.trans i2⟩
        have := hno 16 (Nat.le_refl _)
        have e16 : (t + 1) * 16 = t * 16 + 16 := by omega
        show fc_X H m d aa cc ((t + 1) * 16) = _ ∧ (fc_s _ _ ((t + 1) * 16)).length = _
        rw [e16]
        exact this)
    (by have := fc_s_len (C := fc_C H m d aa cc) (v := fc_v H d aa cc) (q := 40 * 16); show (fc_s _ _ (40 * 16)).length ≤ 640; omega) hG
  have h46 : fc_X H m d aa cc (40 * 16) 46 = fc_r (fc_C H m d aa cc) (fc_v H d aa cc) (H 46) 640 := hb_u1_s _ _ _
  have hY2 : hb_M l yX8_forecast cX8_forecast 8 (some .int) 6 0 0 [hb_r 0, hb_i m, hb_i d, hb_i aa, hb_i cc, hb_i i] (hb_w G F na) (77 + na) (.inl (some (hb_i (if i < ((fc_s (fc_C H m d aa cc) (fc_v H d aa cc) (40 * 16)).length : Nat) then fc_X H m d aa cc (40 * 16) 46 i else -1)))) (hb_w (fc_X H m d aa cc (40 * 16)) F na) (77 + na) := hY
  rw [h46] at hY2
  exact hY2
noncomputable def fc_Y (H K : hb_G) (m d aa cc : Int) (q : Nat) : hb_G := hb_u1 K 75 (fc_u (fc_C H m d aa cc) (fc_v H d aa cc) (K 75) q)
theorem fc_ref {l : Launch} {D H K G0 : hb_G} {F : hb_F} {na n : Nat} {a b : List Nat} {m d aa cc i : Int} (im : hb_in m) (id : hb_in d) (ia : hb_in aa) (ic : hb_in cc) (ii : hb_in i) (hV : bk_V D H K n a b d) (hP : hb_jm (hb_u2 G0 47 0 0) m ∧ (0 ≤ d ∧ d ≤ 30000) ∧ (0 ≤ aa ∧ aa ≤ 1440) ∧ (0 ≤ cc ∧ cc ≤ 1440)) (hA : hb_M l yX9_arrange cX9_arrange 3 (some .boolean) 3 0 0 [hb_r 47, hb_i (100 * d + 99)] (hb_w (hb_u2 G0 47 0 0) F na) (77 + na) (.inl (some (hb_i 1))) (hb_w K F na) (77 + na)) (hG : hb_rg G0) (hK : hb_rg K) (hq : bk_tq D K a.reverse) (hva : ∀ f ∈ a.reverse, bk_vd D f) (hLa : bk_LG D a.reverse) (hmH : hb_im H m) : hb_M l yX9_forecast cX9_forecast 12 (some .int) 4 0 0 [hb_r 47, hb_i m, hb_i d, hb_i aa, hb_i cc, hb_i i] (hb_w G0 F na) (77 + na) (.inl (some (hb_i (if 0 ≤ i ∧ i < ((fc_s (fc_C H m d aa cc) (fc_v H d aa cc) 640).length : Nat) then fc_r (fc_C H m d aa cc) (fc_v H d aa cc) (H 46) 640 i else -1)))) (hb_w (fc_Y H K m d aa cc 640) F na) (77 + na) := by
  have hd := hP.2.1
  obtain ⟨t1, t2, tTI⟩ := bk_tq_TI hV.2.2.2.1.1 hq hva hLa
  have hrg : ∀ q, hb_rg (fc_Y H K m d aa cc q) := fun q p z => by
    unfold fc_Y
    by_cases h : p = 75
    · subst h; rw [hb_u1_s]; exact fc_u_rg (fun i => hK _ _) (fc_vin hd.1 hP.2.2.1.1 hP.2.2.2.1) z
    · rw [hb_u1_n h]; exact hK _ _
  have hVq : ∀ q, bk_V D H (fc_Y H K m d aa cc q) n a b d := fun q => ⟨hV.1, hV.2.1, hV.2.2.1, ⟨fun p hp => by unfold fc_Y; rw [hb_u1_n (by omega)]; exact hV.2.2.2.1.1 p hp, by unfold fc_Y; rw [hb_u1_n (by decide)]; exact hV.2.2.2.1.2.1, by unfold fc_Y; rw [hb_u1_n (by decide)]; exact hV.2.2.2.1.2.2.1, hV.2.2.2.1.2.2.2⟩, hV.2.2.2.2⟩
  have hY0 : fc_Y H K m d aa cc 0 = K := by unfold fc_Y fc_u; exact hb_u1_id K 75
  have w51 := hV.2.2.2.1.1 51 (by omega); have w55 := hV.2.2.2.1.1 55 (by omega)
  have hfj : ∀ t k : Nat, t < 40 → k < 16 → (hb_fj K m (100 * d + 99) n t k ↔ (hb_it H m t ∧ hb_ak H t k)) := fun t k ht hk => by
    have ht9 : 0 ≤ (t : Int) ∧ (t : Int) < 40 := by omega
    have hk9 : 0 ≤ (k : Int) ∧ (k : Int) < 16 := by omega
    unfold hb_fj
    rw [bk_it hV.1 hV.2.1 hV.2.2.1.1 hV.2.2.2.1.1 hq hva hLa hmH ht9, bk_ak hV ht9 hk9, w55]
  have hF := c_mForecastY (l := l) (F := F) (na := na) (G := G0) (SS := fc_Y H K m d aa cc) (nn := fun q => (fc_l (fc_C H m d aa cc) (fc_v H d aa cc) q).length) (n := n) im id ia ic ii hP (by rw [hY0]; exact hA) (fun q _ => hrg q) (fun q _ => tTI.1) (fun q _ => tTI.2.1) (fun q _ => (hVq q).2.2.2.1.2.2.1) hV.2.2.2.1.2.2.2 rfl (fun q _ => fc_s_len.2)
    (fun t k ht hk => by
      have ht9 : 0 ≤ (t : Int) ∧ (t : Int) < 40 := by omega
      have hk9 : 0 ≤ (k : Int) ∧ (k : Int) < 16 := by omega
      obtain ⟨e1, e2⟩ := fc_j (t := t) hk
      have hno : ¬ fc_C H m d aa cc (t * 16 + k) → fc_Y H K m d aa cc (t * 16 + k + 1) = fc_Y H K m d aa cc (t * 16 + k) ∧ (fc_l (fc_C H m d aa cc) (fc_v H d aa cc) (t * 16 + k + 1)).length = (fc_l (fc_C H m d aa cc) (fc_v H d aa cc) (t * 16 + k)).length := fun hC => by
        constructor
        · unfold fc_Y
          conv => lhs; unfold fc_u
          rw [if_neg hC]
        · conv => lhs; unfold fc_l
          rw [if_neg hC]
      by_cases hj : hb_fj K m (100 * d + 99) n t k
      · have hh := (hfj t k ht hk).mp hj
        have h51 : D 51 t ≠ -1 := by rw [← w51]; exact hj.1.1
        have h55 : D 55 k ≠ -1 := by rw [← w55]; exact hj.2.1
        have hon := fc_onfo hV ht9 hk9 h51 h55 hP.2.2.1.1 hP.2.2.2.1
        have hM := fc_over (l := l) (F := F) (na := na) (hVq (t * 16 + k)) (hrg (t * 16 + k)) ht9 hk9 hP.2.2.1 hP.2.2.2
        by_cases h4 : fc_on D a.reverse d aa cc t k ≤ 40000
        · have hfo := hon.1 h4
          have hC : fc_C H m d aa cc (t * 16 + k) := by unfold fc_C; rw [e1, e2]; exact ⟨hh.1, hh.2, by rw [hfo]; exact h4⟩
          have hv : fc_v H d aa cc (t * 16 + k) = 640 * fc_on D a.reverse d aa cc t k + 16 * (t : Int) + (k : Int) := by
            unfold fc_v; rw [e1, e2, hfo]; omega
          refine Or.inr (Or.inr ⟨hj, _, ⟨hon.2.2.1, h4⟩, hM, ?_, ?_⟩)
          · rw [← hv]
            unfold fc_Y
            conv => lhs; unfold fc_u
            rw [if_pos hC]
            unfold hb_u2
            rw [hb_u1_s, hb_u1_u1]
          · show (fc_l _ _ (t * 16 + k + 1)).length = _
            conv => lhs; unfold fc_l
            rw [if_pos hC, List.length_append]
            rfl
        · obtain ⟨h1, h2⟩ := hno (fun hC => by
            unfold fc_C at hC; rw [e1, e2] at hC
            have := hon.2.1 (by omega)
            omega)
          exact Or.inr (Or.inl ⟨hj, _, by constructor <;> omega, by omega, hM, h1, h2⟩)
      · obtain ⟨h1, h2⟩ := hno (fun hC => by
          unfold fc_C at hC; rw [e1, e2] at hC
          exact hj ((hfj t k ht hk).mpr ⟨hC.1, hC.2.1⟩))
        exact Or.inl ⟨hj, h1, h2⟩)
    hG
  have h75 : fc_Y H K m d aa cc 640 75 = fc_u (fc_C H m d aa cc) (fc_v H d aa cc) (K 75) 640 := hb_u1_s _ _ _
  have hF2 : hb_M l yX9_forecast cX9_forecast 12 (some .int) 4 0 0 [hb_r 47, hb_i m, hb_i d, hb_i aa, hb_i cc, hb_i i] (hb_w G0 F na) (77 + na) (.inl (some (hb_i (hb_fr (fc_Y H K m d aa cc 640 75) (fc_l (fc_C H m d aa cc) (fc_v H d aa cc) 640).length i (fc_l (fc_C H m d aa cc) (fc_v H d aa cc) 640).length 0)))) (hb_w (fc_Y H K m d aa cc 640) F na) (77 + na) := hF
  rw [h75, fc_eq (f := H 46) fc_injC] at hF2
  exact hF2
theorem fc_Y_kz {H K : hb_G} {m d aa cc : Int} {q : Nat} : bk_kz K (fc_Y H K m d aa cc q) := ⟨fun p a b => by unfold fc_Y; exact hb_u1_n (by omega), fun i hi => by unfold fc_Y; rw [hb_u1_n (by decide)]⟩
theorem fc_X_kz {H : hb_G} {m d aa cc : Int} {q : Nat} : bk_kz H (fc_X H m d aa cc q) := ⟨fun p a b => by unfold fc_X; exact hb_u1_n (by omega), fun i hi => by unfold fc_X; rw [hb_u1_n (by decide)]⟩
theorem st_forecast {l : Launch} {m d aa cc i : Int} (im : hb_in m) (id : hb_in d) (ia : hb_in aa) (ic : hb_in cc) (ii : hb_in i) : hb_stQ l bk_I yX8_forecast cX8_forecast 8 (some .int) yX9_forecast cX9_forecast 12 (some .int) [hb_i m, hb_i d, hb_i aa, hb_i cc, hb_i i] := by
  intro G F na hI
  obtain ⟨D, n, xs, ob, hJ, hsh, hG, hbn⟩ := hI
  have him : hb_im G m ↔ hb_jm (hb_u2 G 47 0 0) m := bk_im hJ.2.2.1.2.1 (hJ.kz (bk_kz_0 (v := 0))).1
  by_cases hP : hb_im G m ∧ (0 ≤ d ∧ d ≤ 30000) ∧ (0 ≤ aa ∧ aa ≤ 1440) ∧ (0 ≤ cc ∧ cc ≤ 1440)
  · obtain ⟨H, a, b, hx, hp, hM, hS, hJ2, hsh2, hR, hB, hV0⟩ := bk_qd (l := l) hJ hsh hG hbn hP.2.1
    obtain ⟨hva, hLa⟩ := bk_J_a hJ hx
    obtain ⟨s1, s2, sTI⟩ := bk_S1_TI hS.1 hva hLa
    have hmH : hb_im H m := (bk_im hJ2.2.2.1.2.1 (hJ.1)).mpr ((bk_im hJ.2.2.1.2.1 hJ.1).mp hP.1)
    have fin : ∀ (G0 : hb_G), bk_J D G0 F na n xs ob → bk_sh D G0 xs → hb_rg G0 → hb_bn G0 → ∃ G2, hb_M l yX9_forecast cX9_forecast 12 (some .int) 4 0 0 [hb_r 47, hb_i m, hb_i d, hb_i aa, hb_i cc, hb_i i] (hb_w G0 F na) (77 + na) (.inl (some (hb_i (if 0 ≤ i ∧ i < ((fc_s (fc_C H m d aa cc) (fc_v H d aa cc) 640).length : Nat) then fc_r (fc_C H m d aa cc) (fc_v H d aa cc) (H 46) 640 i else -1)))) (hb_w G2 F na) (77 + na) ∧ bk_I G2 F na := by
      intro G0 q1 q2 q3 q4
      obtain ⟨K, k1, k2, k3, k4, k5, k6, k7⟩ := bk_qa (l := l) q1 q2 q3 q4 (pt := 100 * d + 99) (by have := hP.2.1; omega) hx hp
      have hV : bk_V D H K n a b d := bk_V_of hJ2 hS k4.1 k4.2.1 k4.2.2.2.1.2.1 hx hp hP.2.1
      have hjm : hb_jm (hb_u2 G0 47 0 0) m := (bk_im hJ.2.2.1.2.1 (q1.kz (bk_kz_0 (v := 0))).1).mp hP.1
      refine ⟨_, fc_ref im id ia ic ii hV ⟨hjm, hP.2⟩ k1 q3 k6 k2 hva hLa hmH, D, n, xs, ob, k4.kz fc_Y_kz, bk_sh_c k5 (fun p hp9 => by unfold fc_Y; exact hb_u1_n (by omega)), ?_, bk_bn_c (fun p hp9 => by unfold fc_Y; exact hb_u1_n (by omega)) k7⟩
      intro p z
      unfold fc_Y
      by_cases h : p = 75
      · subst h; rw [hb_u1_s]; exact fc_u_rg (fun i => k6 _ _) (fc_vin hP.2.1.1 hP.2.2.1.1 hP.2.2.2.1) z
      · rw [hb_u1_n h]; exact k6 _ _
    have hin : hb_in (if 0 ≤ i ∧ i < ((fc_s (fc_C H m d aa cc) (fc_v H d aa cc) 640).length : Nat) then fc_r (fc_C H m d aa cc) (fc_v H d aa cc) (H 46) 640 i else -1) := by
      split
      · exact fc_r_rg (fun i => hR _ _) (fc_vin hP.2.1.1 hP.2.2.1.1 hP.2.2.2.1) i
      · decide
    by_cases hi : 0 ≤ i
    · have hC := fc_cls im id ia ic ii ⟨hP.1, hP.2.1, hi, hP.2.2⟩ hM hG hR hB sTI.1
      obtain ⟨G2, h1, h2⟩ := fin (fc_X H m d aa cc 640) (hJ2.kz fc_X_kz) (bk_sh_c hsh2 (fun p hp9 => by unfold fc_X; exact hb_u1_n (by omega))) (fc_X_rg hR hP.2.1.1 hP.2.2.1.1 hP.2.2.2.1) (bk_bn_c (fun p hp9 => by unfold fc_X; exact hb_u1_n (by omega)) hB)
      have he : (if 0 ≤ i ∧ i < ((fc_s (fc_C H m d aa cc) (fc_v H d aa cc) 640).length : Nat) then fc_r (fc_C H m d aa cc) (fc_v H d aa cc) (H 46) 640 i else -1) = (if i < ((fc_s (fc_C H m d aa cc) (fc_v H d aa cc) 640).length : Nat) then fc_r (fc_C H m d aa cc) (fc_v H d aa cc) (H 46) 640 i else -1) := by
        by_cases h9 : i < ((fc_s (fc_C H m d aa cc) (fc_v H d aa cc) 640).length : Nat)
        · rw [if_pos h9, if_pos ⟨hi, h9⟩]
        · rw [if_neg h9, if_neg (fun h => h9 h.2)]
      rw [he] at h1 hin
      exact ⟨_, _, G2, 6, 4, hin, by omega, by omega, hC, h1, h2⟩
    · obtain ⟨G2, h1, h2⟩ := fin G hJ hsh hG hbn
      rw [if_neg (fun h => hi h.1)] at h1
      exact ⟨-1, G, G2, 6, 4, by decide, by omega, by omega, c_forecastN im id ia ic ii (fun h => hi h.2.2.1) hG, h1, h2⟩
  · exact ⟨-1, G, _, 6, 4, by decide, by omega, by omega, c_forecastN im id ia ic ii (fun h => hP ⟨h.1, h.2.1, h.2.2.2⟩) hG, c_mForecastN im id ia ic ii (fun h => hP ⟨him.mpr h.1, h.2⟩) hG, bk_I0 hJ hsh hG hbn⟩

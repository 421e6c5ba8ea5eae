/-! heaps in the making: below b as h0 has them, from b on a list -/
def hb_ov (h0 : hb_H) (b : Nat) (cs : List hb_C) : hb_H := fun p => bif Nat.blt p b then h0 p else (cs[p - b]?).getD hb_junk
theorem hb_ov_lt {h0 : hb_H} {b p : Nat} {cs : List hb_C} (h : p < b) : hb_ov h0 b cs p = h0 p := by
  unfold hb_ov
  rw [show Nat.blt p b = true from Nat.ble_eq.mpr h]
  rfl
theorem hb_ov_ge {h0 : hb_H} {b p : Nat} {cs : List hb_C} (h : b ≤ p) : hb_ov h0 b cs p = (cs[p - b]?).getD hb_junk := by
  unfold hb_ov
  have e : Nat.blt p b = false := by
    cases e : Nat.blt p b with
    | false => rfl
    | true => have := Nat.ble_eq.mp e; omega
  rw [e]
  rfl
theorem hb_ov_up {h0 : hb_H} {b j q : Nat} {cs : List hb_C} {c : hb_C} (hj : j < cs.length) (e : q = b + j) : hb_up (hb_ov h0 b cs) q c = hb_ov h0 b (cs.set j c) := by
  subst e
  funext p
  by_cases e1 : p = b + j
  · subst e1
    rw [hb_up_s, hb_ov_ge (by omega), show b + j - b = j by omega, List.getElem?_set_self hj]
    rfl
  · rw [hb_up_n e1]
    by_cases e2 : p < b
    · rw [hb_ov_lt e2, hb_ov_lt e2]
    · rw [hb_ov_ge (by omega), hb_ov_ge (by omega), List.getElem?_set_ne (by omega)]
theorem hb_ov_new {h0 : hb_H} {b q : Nat} {cs : List hb_C} {c : hb_C} (e : q = b + cs.length) : hb_up (hb_ov h0 b cs) q c = hb_ov h0 b (cs ++ [c]) := by
  subst e
  funext p
  by_cases e1 : p = b + cs.length
  · subst e1
    rw [hb_up_s, hb_ov_ge (by omega), show b + cs.length - b = cs.length by omega, List.getElem?_append_right (Nat.le_refl _), Nat.sub_self]
    rfl
  · rw [hb_up_n e1]
    by_cases e2 : p < b
    · rw [hb_ov_lt e2, hb_ov_lt e2]
    · rw [hb_ov_ge (by omega), hb_ov_ge (by omega)]
      by_cases e3 : p - b < cs.length
      · rw [List.getElem?_append_left e3]
      · rw [List.getElem?_eq_none (by omega), List.getElem?_eq_none (by rw [List.length_append]; show _ + 1 ≤ _; omega)]
theorem hb_ov_app {h0 : hb_H} {b q : Nat} {cs cs2 : List hb_C} (e : q = b + cs.length) : hb_ov (hb_ov h0 b cs) q cs2 = hb_ov h0 b (cs ++ cs2) := by
  subst e
  funext p
  by_cases e1 : p < b + cs.length
  · rw [hb_ov_lt e1]
    by_cases e2 : p < b
    · rw [hb_ov_lt e2, hb_ov_lt e2]
    · rw [hb_ov_ge (by omega), hb_ov_ge (by omega), List.getElem?_append_left (by omega)]
  · rw [hb_ov_ge (by omega), hb_ov_ge (by omega), List.getElem?_append_right (by omega), show p - (b + cs.length) = p - b - cs.length by omega]
theorem hb_ov_app2 {h0 : hb_H} {b q : Nat} {cs cs2 cs3 : List hb_C} (e : q = b + cs.length) (e2 : cs3 = cs ++ cs2) : hb_ov h0 b cs3 = hb_ov (hb_ov h0 b cs) q cs2 := by
  rw [hb_ov_app e, e2]
/-- many new cells at once -/
def hb_sgs (σ : Nat → Nat) (N m a : Nat) : Nat → Nat := fun p => if N ≤ p ∧ p < N + m then a + (p - N) else σ p
theorem hb_R.allocs {E : hb_E} {z0 : Heap} {σ : Nat → Nat} {h h2 : hb_H} {N m : Nat} {H H2 : Heap} (hR : hb_R E z0 σ h N H) (hsz : H2.size = H.size + m) (hof : ∀ a, a < H.size → H2[a]? = H[a]?) (hold : ∀ p, p < N → h2 p = h p)
    (hnew : ∀ j, j < m → hb_at E (hb_sgs σ N m H.size) (H.size + j) (h2 (N + j)) H2 ∧ hb_cl (N + m) (h2 (N + j))) (hjk : ∀ p, N + m ≤ p → h2 p = hb_junk) : hb_R E z0 (hb_sgs σ N m H.size) h2 (N + m) H2 := by
  obtain ⟨⟨b1, b2⟩, b3, b4, b5⟩ := hR
  have hs : ∀ p, p < N → hb_sgs σ N m H.size p = σ p := fun p hp => if_neg (by omega)
  have hn : ∀ j, j < m → hb_sgs σ N m H.size (N + j) = H.size + j := fun j hj => by unfold hb_sgs; rw [if_pos (by omega)]; omega
  have hlt : ∀ p, p < N → σ p < H.size := fun p hp => (b3 p hp).2.1.lt
  refine ⟨⟨by omega, fun a ha => by rw [hof a (by omega)]; exact b2 a ha⟩, fun p hp => ?_, fun p q hp hq e => ?_, hjk⟩
  · by_cases e : p < N
    · rw [hold p e, hs p e]
      exact ⟨(b3 p e).1, ((b3 p e).2.1.sig (b3 p e).2.2 hs).kept (hof _ (b3 p e).2.1.lt), (b3 p e).2.2.mono (by omega)⟩
    · obtain ⟨j, rfl⟩ : ∃ j, p = N + j := ⟨p - N, by omega⟩
      have h9 := hnew j (by omega)
      rw [hn j (by omega)]
      exact ⟨by omega, h9.1, h9.2⟩
  · by_cases e1 : p < N
    · by_cases e2 : q < N
      · rw [hs p e1, hs q e2] at e
        exact b4 p q e1 e2 e
      · obtain ⟨j, rfl⟩ : ∃ j, q = N + j := ⟨q - N, by omega⟩
        rw [hs p e1, hn j (by omega)] at e
        have := hlt p e1
        omega
    · obtain ⟨i, rfl⟩ : ∃ j, p = N + j := ⟨p - N, by omega⟩
      by_cases e2 : q < N
      · rw [hn i (by omega), hs q e2] at e
        have := hlt q e2
        omega
      · obtain ⟨j, rfl⟩ : ∃ j, q = N + j := ⟨q - N, by omega⟩
        rw [hn i (by omega), hn j (by omega)] at e
        omega
/-- a grid of n rows of k ints, from N on -/
def hb_gd (h : hb_H) (N n k : Nat) : hb_H := fun p => if p < N then h p else if p = N then .inr (.inr (4, n, fun i => some (N + 1 + i.toNat))) else if p < N + 1 + n then .inr (.inl (0, k, fun _ => 0)) else hb_junk
theorem hb_outer (c : ClassId) (N h0 : Nat) : ∀ i : Nat, Jvm.Free.Multi.outerC c N h0 i = arrV c N (fun j => if j < i then .ref (h0 + 1 + j) else .null)
  | 0 => by
    show ({ cls := c, slots := Array.replicate N .null, vm := .none } : Cell) = _
    rw [arrV_new]
    refine congrArg (arrV c N) (funext fun j => ?_)
    simp
  | i + 1 => by
    show (Jvm.Free.Multi.outerC c N h0 i).setSlot i (.ref (h0 + 1 + i)) = _
    rw [hb_outer c N h0 i, arrV_store]
    refine congrArg (arrV c N) (funext fun j => ?_)
    by_cases e : j = i
    · subst e
      simp [updV]
    · by_cases h : j < i
      · simp [updV, e, h, Nat.lt_succ_of_lt h]
      · simp [updV, e, h, show ¬ j < i + 1 by omega]
theorem hb_arrx {c : ClassId} {n : Nat} {f g : Nat → Value} (h : ∀ i, i < n → f i = g i) : arrV c n f = arrV c n g := by
  unfold arrV
  have e : (fun j : Fin n => f j.val) = (fun j : Fin n => g j.val) := funext fun j => h j.val j.isLt
  rw [e]
section HBV
variable {l : Launch} {own : String} {cc : ByteArray} {nL : Nat} {ret : Option FieldType} {nm : String} {tb : List ExceptionTableEntry} {E : hb_E} {z0 : Heap} {R : Room} {σ0 : Nat → Nat} {N0 : Nat} {o : hb_O} {h' : hb_H} {N' : Nat} {kc ks pc : Nat} {ls st : List hb_V} {h h2 : hb_H} {N : Nat}
theorem aw_mna {ix n k : Nat} (hd : decode cc pc = .ok (.multianewarray ix 2, 4)) (h1 : Cond.classLink own ix "[[I" ∈ hb_ws) (hby : n * 4 ≤ 536870912) (hbk : k * 4 ≤ 536870912) (hkc : kc + (1 + n) ≤ R.cells) (hks : ks + (n + n * k) ≤ R.slots) (hl9 : hb_nw N (N + (1 + n)) ls) (hs9 : hb_nw N (N + (1 + n)) st) (hf : hb_gd h N n k = h2)
    (kk : hb_W l own cc nL ret nm tb E z0 R σ0 N0 o h' N' (kc + (1 + n)) (ks + (n + n * k)) (pc + 4) ls (hb_r N :: st) h2 (N + (1 + n))) : hb_W l own cc nL ret nm tb E z0 R σ0 N0 o h' N' kc ks pc ls (hb_i (k : Int) :: hb_i (n : Int) :: st) h N := by
  subst hf
  intro p e s m args below meth c X σ H locs lr hR hex hlo hL
  have hts := X.2.2.2.2.1
  have hcn : (Int32.ofInt (n : Int)).toNatClampNeg = n := by rw [hb_cla (by omega) (by omega)]; omega
  have hck : (Int32.ofInt (k : Int)).toNatClampNeg = k := by rw [hb_cla (by omega) (by omega)]; omega
  have hcb : componentBytes .int = 4 := rfl
  intro T hT Xs
  obtain ⟨vm₁, cA, comp, -, fA, fC, hO, -, X', step⟩ := Xs.multianewarray2F X.1 (ty := .int) X.2.2.2.1 (hts _ h1) X.2.2.2.2.2.2.1.1.2.2.2.2.2.2.2.1 (hts _ hbx_arrayClass__int) (g := F0 m pc lr ((hb_i (k : Int) :: hb_i (n : Int) :: st).map (hb_cv σ))) rfl (by rw [X.2.1]; exact hd) (n := Int32.ofInt (n : Int)) (k := Int32.ofInt (k : Int)) rfl (fun h9 => hb_vin (i := n) (n := n + 1) (by omega) (by omega) (by omega) (Or.inl h9)) (fun h9 => hb_vin (i := k) (n := k + 1) (by omega) (by omega) (by omega) (Or.inl h9)) (by rw [hcn]; exact hby) (by rw [hck, hcb]; exact hbk) (by rw [hck]; omega) rfl rfl (by rw [hcn]; exact hkc) (by rw [hcn, hck]; exact hks)
  rw [hcn, hck] at X' step
  have hcA : cA = E.2 4 := Option.some.inj (fA.symm.trans (X.2.2.2.2.2.1.2 4 (by omega)).2.1)
  have hcC : comp = E.2 0 := Option.some.inj (fC.symm.trans (X.2.2.2.2.2.1.2 0 (by omega)).2.1)
  subst hcA; subst hcC
  obtain ⟨f1, f2, -, -⟩ := Jvm.Free.Multi.fill_facts (T.setVm vm₁) (E.2 4) (E.2 0) n k (defaultValue .int) n
  have f3 : ∀ x : Nat, x < (T.setVm vm₁).heap.size → _ := fun x hx => Jvm.Free.Multi.fill_old (T.setVm vm₁) (E.2 4) (E.2 0) n k (defaultValue .int) (a := x) hx n
  have f4 := Jvm.Free.Multi.fill_inner (T.setVm vm₁) (E.2 4) (E.2 0) n k (defaultValue .int) n
  generalize Jvm.Free.Multi.fill (T.setVm vm₁) (E.2 4) (E.2 0) n k (defaultValue .int) n = F at X' step f1 f2 f3 f4
  have hTh : (T.setVm vm₁).heap = H := hT
  rw [hTh] at f1 f2 f3 f4
  rw [hb_outer] at f2
  have hT2 : T.heap = H := hT
  rw [hT2] at step
  have hsg : ∀ p, ¬ (N ≤ p ∧ p < N + (1 + n)) → hb_sgs σ N (1 + n) H.size p = σ p := fun p hp => if_neg hp
  have hR2 : hb_R E z0 (hb_sgs σ N (1 + n) H.size) (hb_gd h N n k) (N + (1 + n)) F.heap := by
    refine hR.allocs (by rw [f1]; omega) f3 (fun p hp => if_pos hp) (fun j hj => ?_) (fun p hp => ?_)
    · cases j with
      | zero =>
        have e0 : hb_gd h N n k (N + 0) = .inr (.inr (4, n, fun i => some (N + 1 + i.toNat))) := by unfold hb_gd; rw [if_neg (by omega), if_pos (by omega)]
        rw [e0]
        refine ⟨?_, fun i p9 hi hp9 => ?_⟩
        · show F.heap[H.size + 0]? = some (arrV (E.2 4) n _)
          rw [Nat.add_zero, f2]
          refine congrArg some (hb_arrx fun i hi => ?_)
          rw [if_pos hi]
          show Value.ref (H.size + 1 + i) = Value.ref (hb_sgs σ N (1 + n) H.size (N + 1 + (i : Int).toNat))
          rw [Int.toNat_natCast]
          unfold hb_sgs
          rw [if_pos (by omega)]
          refine congrArg Value.ref ?_
          show (Array.size H + 1 + i : Nat) = Array.size H + (N + 1 + i - N)
          omega
        · cases hp9
          rw [Int.toNat_natCast]
          omega
      | succ j =>
        have e0 : hb_gd h N n k (N + (j + 1)) = .inr (.inl (0, k, fun _ => 0)) := by unfold hb_gd; rw [if_neg (by omega), if_neg (by omega), if_pos (by omega)]
        rw [e0]
        refine ⟨?_, trivial⟩
        show F.heap[H.size + (j + 1)]? = some (arrV (E.2 0) k (fun j => hb_el 0 0))
        have h9 := f4 j (by omega)
        rw [show H.size + (j + 1) = H.size + 1 + j by omega, h9]
        exact congrArg some (arrV_new _ _ _)
    · unfold hb_gd; rw [if_neg (by omega), if_neg (by omega), if_neg (by omega)]
  obtain ⟨t, a1, b1⟩ := kk p e s m args below meth c X (hb_sgs σ N (1 + n) H.size) F.heap locs lr hR2 ⟨by have := hex.1; omega, fun p hp => by
    have := hex.1
    rw [hsg p (fun q => hp ⟨by omega, q.2⟩)]
    exact hex.2 p (fun q => hp ⟨q.1, by omega⟩)⟩ hlo (hL.sig (fun p hp => hsg p (hl9 p hp))) F rfl (by rw [show kc + (1 + n) = kc + 1 + n by omega, show ks + (n + n * k) = ks + n + n * k by omega]; exact X')
  refine ⟨t, step t ?_, b1⟩
  rw [List.map_cons, hb_map_sig (σ := σ) (fun p hp => hsg p (hs9 p hp))] at a1
  have e8 : hb_cv (hb_sgs σ N (1 + n) H.size) (hb_r N) = .ref H.size := by
    show Value.ref (hb_sgs σ N (1 + n) H.size N) = _
    unfold hb_sgs
    rw [if_pos (by omega), Nat.sub_self, Nat.add_zero]
  rw [e8] at a1
  exact a1
theorem hb_gd_ov {h0 : hb_H} {b N n k : Nat} {cs : List hb_C} (e : N = b + cs.length) : hb_gd (hb_ov h0 b cs) N n k = hb_ov h0 b (cs ++ (.inr (.inr (4, n, fun i => some (N + 1 + i.toNat))) :: List.replicate n (.inr (.inl (0, k, fun _ => 0))))) := by
  subst e
  funext p
  unfold hb_gd
  by_cases e1 : p < b + cs.length
  · rw [if_pos e1]
    by_cases e2 : p < b
    · rw [hb_ov_lt e2, hb_ov_lt e2]
    · rw [hb_ov_ge (by omega), hb_ov_ge (by omega), List.getElem?_append_left (by omega)]
  · rw [if_neg e1, hb_ov_ge (by omega), List.getElem?_append_right (by omega)]
    by_cases e2 : p = b + cs.length
    · subst e2
      rw [if_pos rfl, show b + cs.length - b - cs.length = 0 by omega]
      rfl
    · rw [if_neg e2]
      obtain ⟨j, hj⟩ : ∃ j, p - b - cs.length = j + 1 := ⟨p - b - cs.length - 1, by omega⟩
      rw [hj, List.getElem?_cons_succ, List.getElem?_replicate]
      by_cases e3 : j < n
      · rw [if_pos e3, if_pos (by omega)]
        rfl
      · rw [if_neg e3, if_neg (by omega)]
        rfl
theorem aw_newe2 {ix n : Nat} (hd : decode cc pc = .ok (.anewarray ix, 3)) (h1 : Cond.classLink own ix "HangarBook$Entry" ∈ hb_ws) (hby : n * 4 ≤ 536870912) (hkc : kc + 1 ≤ R.cells) (hks : ks + n ≤ R.slots) (hl9 : hb_nw N (N + 1) ls) (hs9 : hb_nw N (N + 1) st)
    (k : hb_W l own cc nL ret nm tb E z0 R σ0 N0 o h' N' (kc + 1) (ks + n) (pc + 3) ls (hb_r N :: st) (hb_up h N (.inr (.inr (3, n, fun _ => none)))) (N + 1)) : hb_W l own cc nL ret nm tb E z0 R σ0 N0 o h' N' kc ks pc ls (hb_i (n : Int) :: st) h N := by
  intro p e s m args below meth c X σ H locs lr hR hex hlo hL
  have hcl : (Int32.ofInt (n : Int)).toNatClampNeg = n := by rw [hb_cla (by omega) (by omega)]; omega
  refine W.anew X.1 X.2.1 X.2.2.2.1 (X.2.2.2.2.1 _ h1) X.2.2.2.2.2.2.1.1.2.2.2.2.2.2.2.2 rfl hd (n := Int32.ofInt (n : Int)) (rest := st.map (hb_cv σ)) rfl (fun h9 => hb_vin (i := n) (n := n + 1) (by omega) (by omega) (by omega) (Or.inl h9)) (by rw [hcl]; exact hby) hkc (by rw [hcl]; exact hks) fun cA kA comp f1 f2 f3 f4 => ?_
  have hcA : cA = E.2 3 := by
    obtain ⟨kA9, comp9, r1, r2, r3, r4⟩ := (X.2.2.2.2.2.1.2 3 (by omega)).2.1
    exact Option.some.inj (f1.symm.trans r4)
  rw [hcl]
  refine hb_fresh (cl := .inr (.inr (3, n, fun _ => none))) X hR hex hlo hL ?_ ?_ (by simp) (fun a ha => by rw [Array.getElem?_push_lt ha, Array.getElem?_eq_getElem ha]) hl9 hs9 k
  · show (H.push _)[H.size]? = some (arrV (E.2 3) n (fun j => .null))
    rw [Array.getElem?_push_size, arrV_new, hcA]
  · intro j p9 hj hp9
    cases hp9
end HBV

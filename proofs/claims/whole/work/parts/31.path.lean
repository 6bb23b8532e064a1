/-! ===== least texts of remainders: the mathematics ===== -/
/-- a text t that one row spells whole, and another one, with another first rule, up to the remainder v -/
def Pa (S : List (List Int)) (t v : List Int) : Prop := ∀ P : List Int → List Int → Prop,
  (∀ (i j : Nat) (a b : List Int), i ≠ j → S[i]? = some a → S[j]? = some b → a <+: b → P b (b.drop a.length)) →
  (∀ t v s, P t v → v ≠ [] → s ∈ S → v <+: s → P (t ++ s.drop v.length) (s.drop v.length)) →
  (∀ t v s, P t v → v ≠ [] → s ∈ S → s <+: v → P t (v.drop s.length)) → P t v
theorem Pa.st {S : List (List Int)} {i j : Nat} {a b : List Int} (h : i ≠ j) (ha : S[i]? = some a) (hb : S[j]? = some b) (hp : a <+: b) : Pa S b (b.drop a.length) := fun _ h1 _ _ => h1 i j a b h ha hb hp
theorem Pa.s2 {S : List (List Int)} {t v s : List Int} (h : Pa S t v) (hv : v ≠ []) (hs : s ∈ S) (hp : v <+: s) : Pa S (t ++ s.drop v.length) (s.drop v.length) := fun P h1 h2 h3 => h2 t v s (h P h1 h2 h3) hv hs hp
theorem Pa.s3 {S : List (List Int)} {t v s : List Int} (h : Pa S t v) (hv : v ≠ []) (hs : s ∈ S) (hp : s <+: v) : Pa S t (v.drop s.length) := fun P h1 h2 h3 => h3 t v s (h P h1 h2 h3) hv hs hp
theorem Pa.rem {S : List (List Int)} {t v : List Int} (h : Pa S t v) : Rem S v :=
  h (fun _ v => Rem S v) (fun i j a b h1 h2 h3 h4 => Rem.st ⟨i, j, a, b, h1, h2, h3, h4, rfl⟩) (fun _ v s h1 h2 h3 h4 => h1.nx h2 ⟨s, h3, Or.inl ⟨h4, rfl⟩⟩) (fun _ v s h1 h2 h3 h4 => h1.nx h2 ⟨s, h3, Or.inr ⟨h4, rfl⟩⟩)
theorem Pa.ok {S : List (List Int)} (hS : okS S) {t v : List Int} (h : Pa S t v) : okl t ∧ 1 ≤ t.length :=
  h (fun t _ => okl t ∧ 1 ≤ t.length) (fun i j a b _ _ h3 _ => ⟨(hS.1 b (List.mem_of_getElem? h3)).1, hS.2.1 b (List.mem_of_getElem? h3)⟩)
    (fun t v s h1 _ h3 _ => ⟨okl_app.mpr ⟨h1.1, ((hS.1 s h3).1).drop _⟩, by rw [List.length_append]; have := h1.2; omega⟩) (fun _ _ _ h1 _ _ _ => h1)
theorem Rem.pa {S : List (List Int)} {v : List Int} (h : Rem S v) : ∃ t, Pa S t v := by
  refine h (fun v => ∃ t, Pa S t v) (fun w hw => ?_) (fun u w hu hne hw => ?_)
  · obtain ⟨i, j, a, b, h1, h2, h3, h4, rfl⟩ := hw
    exact ⟨b, Pa.st h1 h2 h3 h4⟩
  · obtain ⟨t, ht⟩ := hu
    obtain ⟨s, hs, ⟨h1, rfl⟩ | ⟨h1, rfl⟩⟩ := hw
    · exact ⟨_, ht.s2 hne hs h1⟩
    · exact ⟨_, ht.s3 hne hs h1⟩
theorem Pa.inv {S : List (List Int)} {t v : List Int} (h : Pa S t v) : (∃ (i j : Nat) (a b : List Int), i ≠ j ∧ S[i]? = some a ∧ S[j]? = some b ∧ a <+: b ∧ t = b ∧ v = b.drop a.length) ∨ (∃ t' u s, Pa S t' u ∧ u ≠ [] ∧ s ∈ S ∧ u <+: s ∧ t = t' ++ s.drop u.length ∧ v = s.drop u.length) ∨ (∃ u s, Pa S t u ∧ u ≠ [] ∧ s ∈ S ∧ s <+: u ∧ v = u.drop s.length) := by
  have key := h (fun t v => Pa S t v ∧ ((∃ (i j : Nat) (a b : List Int), i ≠ j ∧ S[i]? = some a ∧ S[j]? = some b ∧ a <+: b ∧ t = b ∧ v = b.drop a.length) ∨ (∃ t' u s, Pa S t' u ∧ u ≠ [] ∧ s ∈ S ∧ u <+: s ∧ t = t' ++ s.drop u.length ∧ v = s.drop u.length) ∨ (∃ u s, Pa S t u ∧ u ≠ [] ∧ s ∈ S ∧ s <+: u ∧ v = u.drop s.length)))
    (fun i j a b h1 h2 h3 h4 => ⟨Pa.st h1 h2 h3 h4, Or.inl ⟨i, j, a, b, h1, h2, h3, h4, rfl, rfl⟩⟩)
    (fun t v s h1 h2 h3 h4 => ⟨h1.1.s2 h2 h3 h4, Or.inr (Or.inl ⟨t, v, s, h1.1, h2, h3, h4, rfl, rfl⟩)⟩)
    (fun t v s h1 h2 h3 h4 => ⟨h1.1.s3 h2 h3 h4, Or.inr (Or.inr ⟨v, s, h1.1, h2, h3, h4, rfl⟩)⟩)
  exact key.2
/-- the least text of a remainder -/
def Lst (S : List (List Int)) (v t : List Int) : Prop := Pa S t v ∧ ∀ t', Pa S t' v → encN t ≤ encN t'
theorem Lst.ex {S : List (List Int)} {v : List Int} (h : Rem S v) : ∃ t, Lst S v t := by
  obtain ⟨t0, h0⟩ := h.pa
  obtain ⟨k, ⟨t, ht, rfl⟩, hk⟩ := pk_least (fun n => ∃ t, Pa S t v ∧ encN t = n) ⟨_, t0, h0, rfl⟩
  exact ⟨t, ht, fun t' ht' => Nat.le_of_not_lt (fun q => hk _ q ⟨t', ht', rfl⟩)⟩
theorem Lst.eq {S : List (List Int)} (hS : okS S) {v t t' : List Int} (h : Lst S v t) (h' : Pa S t' v) (he : encN t' ≤ encN t) : t' = t := by
  have := h.2 t' h'
  exact (encN_inj (h'.ok hS).1 (h.1.ok hS).1).mp (by omega)
theorem Lst.uniq {S : List (List Int)} (hS : okS S) {v t t' : List Int} (h : Lst S v t) (h' : Lst S v t') : t' = t := h.eq hS h'.1 (h'.2 t h.1)
theorem encN_catle {a b w : List Int} (hw : okl w) (h : encN a ≤ encN b) : encN (a ++ w) ≤ encN (b ++ w) := by
  rw [encN_cat a hw, encN_cat b hw]
  have := Nat.mul_le_mul_right (128 ^ w.length) h
  omega
theorem encN_catlt {a w : List Int} (ha : okl a) (hw : okl w) (hne : w ≠ []) : encN a < encN (a ++ w) := by
  refine encN_len ha (okl_app.mpr ⟨ha, hw⟩) ?_
  rw [List.length_append]
  have := List.length_pos_iff.mpr hne
  omega
/-- one pass over all remainders: nothing grows, and from each least text all that follows is offered -/
def passOK (S ws : List (List Int)) (τ τ' : Nat → List Int) : Prop :=
  (∀ i, i < ws.length → τ i ≠ [] → τ' i ≠ [] ∧ encN (τ' i) ≤ encN (τ i)) ∧
  (∀ i (h : i < ws.length), τ' i ≠ [] → Pa S (τ' i) ws[i]) ∧
  (∀ i (h : i < ws.length), Lst S ws[i] (τ i) → ws[i] ≠ [] → ∀ s ∈ S, ∀ j (hj : j < ws.length), (ws[i] <+: s → ws[j] = s.drop ws[i].length → τ' j ≠ [] ∧ encN (τ' j) ≤ encN (τ i ++ ws[j])) ∧ (s <+: ws[i] → ws[j] = ws[i].drop s.length → τ' j ≠ [] ∧ encN (τ' j) ≤ encN (τ i)))
/-- the first texts are there -/
def stOK (S ws : List (List Int)) (τ : Nat → List Int) : Prop := (∀ i (h : i < ws.length), τ i ≠ [] → Pa S (τ i) ws[i]) ∧ ∀ (i j : Nat) (a b : List Int), i ≠ j → S[i]? = some a → S[j]? = some b → a <+: b → ∀ m (hm : m < ws.length), ws[m] = b.drop a.length → τ m ≠ [] ∧ encN (τ m) ≤ encN b
noncomputable def fnl (S ws : List (List Int)) (τ : Nat → List Int) (i : Nat) : Bool := @decide (∃ h : i < ws.length, Lst S ws[i] (τ i)) (Classical.propDecidable _)
theorem fnl_iff {S ws : List (List Int)} {τ : Nat → List Int} {i : Nat} : fnl S ws τ i = true ↔ ∃ h : i < ws.length, Lst S ws[i] (τ i) := by unfold fnl; exact @decide_eq_true_iff _ (Classical.propDecidable _)
noncomputable def nfn (S ws : List (List Int)) (τ : Nat → List Int) : Nat := (List.range ws.length).countP (fun i => !fnl S ws τ i)
theorem countP_lt {p q : Nat → Bool} : ∀ (l : List Nat), (∀ i ∈ l, p i = true → q i = true) → (∃ i ∈ l, q i = true ∧ p i = false) → l.countP p < l.countP q
  | [], _, h => by obtain ⟨i, hi, -⟩ := h; simp at hi
  | x :: l, h1, h2 => by
    have hle : l.countP p ≤ l.countP q := List.countP_mono_left (fun i hi => h1 i (List.mem_cons_of_mem _ hi))
    rw [List.countP_cons, List.countP_cons]
    obtain ⟨i, hi, hq, hp⟩ := h2
    rcases List.mem_cons.mp hi with e | hi
    · subst e; simp [hq, hp]; omega
    · have := countP_lt l (fun i hi => h1 i (List.mem_cons_of_mem _ hi)) ⟨i, hi, hq, hp⟩
      have hx := h1 x List.mem_cons_self
      by_cases hpx : p x = true
      · rw [if_pos hpx, if_pos (hx hpx)]; omega
      · rw [if_neg hpx]; split <;> omega
theorem pass_fin {S ws : List (List Int)} (hS : okS S) {τ τ' : Nat → List Int} (hp : passOK S ws τ τ') {i : Nat} (h : fnl S ws τ i = true) : τ' i = τ i ∧ fnl S ws τ' i = true := by
  obtain ⟨hi, hl⟩ := fnl_iff.mp h
  have hne : τ i ≠ [] := by
    intro e
    have := (hl.1.ok hS).2
    rw [e] at this
    simp at this
  obtain ⟨h1, h2⟩ := hp.1 i hi hne
  have e := hl.eq hS (hp.2.1 i hi h1) h2
  exact ⟨e, fnl_iff.mpr ⟨hi, by rw [e]; exact hl⟩⟩
/-- a pass over texts that aren't all least makes one more of them least -/
theorem pass_dec {S ws : List (List Int)} (hS : okS S) (hw : ∀ w, w ∈ ws ↔ Rem S w) {τ τ' : Nat → List Int} (hs : stOK S ws τ) (hp : passOK S ws τ τ') (h0 : nfn S ws τ ≠ 0) : nfn S ws τ' < nfn S ws τ := by
  -- the nonfinal one with the least text, of several the longest
  have hex : ∃ k, ∃ i, ∃ h : i < ws.length, fnl S ws τ i = false ∧ ∃ t, Lst S ws[i] t ∧ k = encN t * 8 + (7 - ws[i].length) := by
    have : 0 < nfn S ws τ := Nat.pos_of_ne_zero h0
    unfold nfn at this
    obtain ⟨i, hi, hf⟩ := List.countP_pos_iff.mp this
    rw [List.mem_range] at hi
    obtain ⟨t, ht⟩ := Lst.ex ((hw ws[i]).mp (List.getElem_mem hi))
    exact ⟨_, i, hi, by simpa using hf, t, ht, rfl⟩
  obtain ⟨k, ⟨i, hi, hf, t, ht, hk⟩, hmin⟩ := pk_least _ hex
  have len3 : ∀ (m : Nat) (hm : m < ws.length), ws[m].length ≤ 3 := fun m hm => (Rem_ok hS ((hw _).mp (List.getElem_mem hm))).2
  have earlier : ∀ u (tu : List Int), Pa S tu u → (encN tu < encN t ∨ (encN tu ≤ encN t ∧ ws[i].length < u.length)) → ∃ m, ∃ hm : m < ws.length, ws[m] = u ∧ Lst S u (τ m) := by
    intro u tu htu hlt
    obtain ⟨m, hm, e⟩ := List.getElem_of_mem ((hw u).mpr htu.rem)
    refine ⟨m, hm, e, ?_⟩
    cases hfm : fnl S ws τ m with
    | true =>
      obtain ⟨hx, hq⟩ := fnl_iff.mp hfm
      rw [e] at hq
      exact hq
    | false =>
      exfalso
      obtain ⟨t2, ht2⟩ := Lst.ex htu.rem
      have h3 := ht2.2 tu htu
      have l1 := len3 m hm
      have l2 := len3 i hi
      refine hmin (encN t2 * 8 + (7 - ws[m].length)) ?_ ⟨m, hm, hfm, t2, by rw [e]; exact ht2, rfl⟩
      rw [e] at l1 ⊢
      omega
  have hgoal : fnl S ws τ' i = true := by
    have close : ∀ x : List Int, τ' i ≠ [] → encN (τ' i) ≤ encN t → fnl S ws τ' i = true := by
      intro _ q1 q2
      have e := ht.eq hS (hp.2.1 i hi q1) q2
      exact fnl_iff.mpr ⟨hi, by rw [e]; exact ht⟩
    rcases ht.1.inv with ⟨a, b, x, y, h1, h2, h3, h4, h5, h6⟩ | ⟨t', u, s, h1, h2, h3, h4, h5, h6⟩ | ⟨u, s, h1, h2, h3, h4, h5⟩
    · obtain ⟨q1, q2⟩ := hs.2 a b x y h1 h2 h3 h4 i hi h6
      obtain ⟨q3, q4⟩ := hp.1 i hi q1
      exact close [] q3 (by rw [h5]; omega)
    · have okv : okl (s.drop u.length) := ((hS.1 s h3).1).drop _
      have hlt : encN t' < encN t ∨ (encN t' ≤ encN t ∧ ws[i].length < u.length) := by
        by_cases hv : s.drop u.length = []
        · refine Or.inr ⟨by rw [h5, hv, List.append_nil]; exact Nat.le_refl _, ?_⟩
          rw [h6, hv]
          exact List.length_pos_iff.mpr h2
        · exact Or.inl (by rw [h5]; exact encN_catlt (h1.ok hS).1 okv hv)
      obtain ⟨m, hm, e, hl⟩ := earlier u t' h1 hlt
      have hl2 : Lst S ws[m] (τ m) := by rw [e]; exact hl
      have q := (hp.2.2 m hm hl2 (by rw [e]; exact h2) s h3 i hi).1 (by rw [e]; exact h4) (by rw [e]; exact h6)
      refine close [] q.1 (Nat.le_trans q.2 ?_)
      rw [h6, h5]
      exact encN_catle okv (hl.2 t' h1)
    · have hlt : encN t < encN t ∨ (encN t ≤ encN t ∧ ws[i].length < u.length) := by
        refine Or.inr ⟨Nat.le_refl _, ?_⟩
        rw [h5, List.length_drop]
        have := hS.2.1 s h3
        have := List.length_pos_iff.mpr h2
        omega
      obtain ⟨m, hm, e, hl⟩ := earlier u t h1 hlt
      have hl2 : Lst S ws[m] (τ m) := by rw [e]; exact hl
      have q := (hp.2.2 m hm hl2 (by rw [e]; exact h2) s h3 i hi).2 (by rw [e]; exact h4) (by rw [e]; exact h5)
      exact close [] q.1 (Nat.le_trans q.2 (hl.2 t h1))
  unfold nfn
  refine countP_lt _ (fun m hm hf' => ?_) ⟨i, List.mem_range.mpr hi, by rw [hf]; rfl, by rw [hgoal]; rfl⟩
  cases hfm : fnl S ws τ m with
  | true => have := (pass_fin hS hp hfm).2; rw [this] at hf'; exact hf'
  | false => rfl
theorem nfn_0 {S ws : List (List Int)} {τ : Nat → List Int} (h : nfn S ws τ = 0) {i : Nat} (hi : i < ws.length) : Lst S ws[i] (τ i) := by
  unfold nfn at h
  have := List.countP_eq_zero.mp h i (List.mem_range.mpr hi)
  cases hf : fnl S ws τ i with
  | true =>
    obtain ⟨hx, hq⟩ := fnl_iff.mp hf
    exact hq
  | false => rw [hf] at this; exact absurd rfl this
theorem nfn_le (S ws : List (List Int)) (τ : Nat → List Int) : nfn S ws τ ≤ ws.length := by
  unfold nfn
  have := List.countP_le_length (p := fun i => !fnl S ws τ i) (l := List.range ws.length)
  rwa [List.length_range] at this

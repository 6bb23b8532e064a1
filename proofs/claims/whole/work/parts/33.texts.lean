/-! ===== Clashes: the texts' invariant ===== -/
def sumL (ws : List (List Int)) (L : List Nat) : Nat := (L.map (fun m => (ws.getD m []).length)).sum
theorem sum_erase {x : List Int} : ∀ {U : List (List Int)}, x ∈ U → (U.map List.length).sum = x.length + ((U.erase x).map List.length).sum
  | [], h => by simp at h
  | y :: U, h => by
    by_cases e : y = x
    · subst e; simp
    · have hx : x ∈ U := by
        rcases List.mem_cons.mp h with z | z
        · exact absurd z.symm e
        · exact z
      have ih := sum_erase hx
      have e2 : (y :: U).erase x = y :: U.erase x := by rw [List.erase_cons]; simp [e]
      rw [e2]
      simp only [List.map_cons, List.sum_cons]
      omega
theorem nodup_sum : ∀ (xs U : List (List Int)), xs.Nodup → (∀ x ∈ xs, x ∈ U) → (xs.map List.length).sum ≤ (U.map List.length).sum
  | [], U, _, _ => Nat.zero_le _
  | x :: xs, U, h1, h2 => by
    obtain ⟨h3, h4⟩ := List.nodup_cons.mp h1
    have hx := h2 x List.mem_cons_self
    have ih := nodup_sum xs (U.erase x) h4 (fun y hy => (List.mem_erase_of_ne (fun e : y = x => h3 (e ▸ hy))).mpr (h2 y (List.mem_cons_of_mem _ hy)))
    rw [sum_erase hx]
    simp only [List.map_cons, List.sum_cons]
    omega
theorem rm_U_sum {S : List (List Int)} (h : okw S) : ((rm_U S).map List.length).sum ≤ 6 * S.length := by
  unfold rm_U
  induction S with
  | nil => simp
  | cons s S ih =>
    have h4 := (h s List.mem_cons_self).2
    have ih := ih (fun x hx => h x (List.mem_cons_of_mem _ hx))
    simp only [List.map_cons, List.sum_cons, List.flatMap_cons, List.map_append, List.sum_append, List.length_cons, List.length_nil, List.length_drop, List.map_nil, List.sum_nil] at ih ⊢
    omega
theorem sumL_le {S ws : List (List Int)} (hS : okS S) (hw : rmL S ws) {L : List Nat} (hn : L.Nodup) (hl : ∀ m ∈ L, m < ws.length) : sumL ws L ≤ 48 := by
  have e : sumL ws L = ((L.map (fun m => ws.getD m [])).map List.length).sum := by unfold sumL; rw [List.map_map]; rfl
  rw [e]
  refine Nat.le_trans (nodup_sum _ (rm_U S) ?_ ?_) (Nat.le_trans (rm_U_sum hS.1) (by have := hS.2.2; omega))
  · refine List.pairwise_map.mpr (hn.imp_of_mem (fun {a b} ha hb hab he => hab ?_))
    have h1 := hl a ha
    have h2 := hl b hb
    rw [List.getD_eq_getElem?_getD, List.getElem?_eq_getElem h1, List.getD_eq_getElem?_getD, List.getElem?_eq_getElem h2] at he
    exact (List.getElem_inj hw.1).mp he
  · intro x hx
    obtain ⟨m, hm, rfl⟩ := List.mem_map.mp hx
    have h1 := hl m hm
    rw [List.getD_eq_getElem?_getD, List.getElem?_eq_getElem h1]
    exact Rem_U hS (hw.2 _ (List.getElem_mem h1))
def tle (τ τ' : Nat → List Int) : Prop := ∀ i, τ i ≠ [] → τ' i ≠ [] ∧ encN (τ' i) ≤ encN (τ i)
theorem tle.rf {τ : Nat → List Int} : tle τ τ := fun _ h => ⟨h, Nat.le_refl _⟩
theorem tle.tr {τ τ' τ'' : Nat → List Int} (h1 : tle τ τ') (h2 : tle τ' τ'') : tle τ τ'' := fun i h => by
  have a := h1 i h
  have b := h2 i a.1
  exact ⟨b.1, by omega⟩
def txI (S ws : List (List Int)) (τ : Nat → List Int) (L : List Nat) : Prop := L.Nodup ∧ (∀ m ∈ L, m < ws.length ∧ τ m ≠ []) ∧ ∀ i, τ i ≠ [] → i ∈ L ∧ Pa S (τ i) (ws.getD i []) ∧ (τ i).length ≤ 4 + sumL ws L
theorem txI.ok {S ws : List (List Int)} {τ : Nat → List Int} {L : List Nat} (hS : okS S) (h : txI S ws τ L) (i : Nat) : okl (τ i) := by
  by_cases hi : τ i = []
  · rw [hi]; exact fun c hc => by simp at hc
  · exact ((h.2.2 i hi).2.1.ok hS).1
def TXL : List Nat := List.range' 54 50
theorem TXL_mem {p : Nat} : p ∈ TXL ↔ 54 ≤ p ∧ p < 104 := by unfold TXL; rw [List.mem_range'_1]
theorem ev_X0_offer {σ : am_St} {S ws : List (List Int)} {τ : Nat → List Int} {L : List Nat} {v o : List Int} (hS : okS S) (hw : rmL S ws) (hr : hold σ 45 25 (ws.map enc)) (ht : txs σ τ) (hI : txI S ws τ L) (ho : hold σ 104 56 o) (hp : Pa S o v) (hvm : v ∈ ws) (hlen : o.length ≤ 4 + sumL ws L + v.length ∨ o.length ≤ 4) : am_Ev SH mX0_take 1 [.ref 43, .int (iZ (enc v))] σ (am_rI (fun x σ2 => ∃ τ' L', txs σ2 τ' ∧ txI S ws τ' L' ∧ tle τ τ' ∧ (∀ j, ws[j]? = some v → τ' j ≠ [] ∧ encN (τ' j) ≤ encN o) ∧ (x = 1 ∨ (x = 0 ∧ τ' = τ)) ∧ am_off TXL σ σ2)) := by
  have hwo : ∀ w ∈ ws, okl w ∧ w.length ≤ 4 := fun w hx => ⟨(Rem_ok hS (hw.2 w hx)).1, by have := (Rem_ok hS (hw.2 w hx)).2; omega⟩
  have hvo := hwo v hvm
  have h25 := Rem_len hS hw.1 hw.2
  have base := ev_X0_take hr hwo ht (fun i _ => hI.ok hS i) ho (hp.ok hS).1 hvo.1 hvo.2 hvm
  refine am_ev_wk base (fun r σ2 hx => ?_)
  obtain ⟨x, hx1, j, hj, hc, hoff⟩ := hx
  refine ⟨x, hx1, ?_⟩
  have hjl := (List.getElem?_eq_some_iff.mp hj).1
  have uniq : ∀ j', ws[j']? = some v → j' = j := fun j' hj' => by
    obtain ⟨z1, z2⟩ := List.getElem?_eq_some_iff.mp hj'
    obtain ⟨z3, z4⟩ := List.getElem?_eq_some_iff.mp hj
    exact (List.getElem_inj hw.1).mp (z2.trans z4.symm)
  have hoff2 : am_off TXL σ σ2 := hoff.wk (fun p hp => by
    rw [TXL_mem]
    simp only [List.mem_cons, List.not_mem_nil, or_false] at hp
    omega)
  have hone : o ≠ [] := by intro z; have := (hp.ok hS).2; rw [z] at this; simp at this
  rcases hc with ⟨e1, e2, e3⟩ | ⟨e1, e2, e3, rfl⟩
  · have htle : tle τ (tupd τ j o) := fun i hi => by
      unfold tupd
      by_cases hij : i = j
      · rw [if_pos hij]
        refine ⟨hone, ?_⟩
        rw [hij] at hi ⊢
        rcases e2 with z | z
        · exact absurd z hi
        · omega
      · rw [if_neg hij]; exact ⟨hi, Nat.le_refl _⟩
    have hgv : ws.getD j [] = v := by rw [List.getD_eq_getElem?_getD, hj]; rfl
    by_cases hjL : j ∈ L
    · refine ⟨tupd τ j o, L, e3, ⟨hI.1, fun m hm => ⟨(hI.2.1 m hm).1, ?_⟩, fun i hi => ?_⟩, htle, fun j' hj' => ?_, Or.inl e1, hoff2⟩
      · exact (htle m (hI.2.1 m hm).2).1
      · unfold tupd at hi ⊢
        by_cases hij : i = j
        · rw [if_pos hij, hij, hgv]
          refine ⟨hjL, hp, ?_⟩
          have hne := (hI.2.1 j hjL).2
          have hb := (hI.2.2 j hne).2.2
          rcases e2 with z | z
          · exact absurd z hne
          · refine Nat.le_trans (Nat.le_of_not_lt (fun z2 => ?_)) hb
            have := encN_len (hI.ok hS j) (hp.ok hS).1 z2
            omega
        · rw [if_neg hij] at hi ⊢; exact hI.2.2 i hi
      · rw [uniq j' hj']; unfold tupd; rw [if_pos rfl]; exact ⟨hone, Nat.le_refl _⟩
    · have es : sumL ws (j :: L) = v.length + sumL ws L := by unfold sumL; simp only [List.map_cons, List.sum_cons]; rw [hgv]
      refine ⟨tupd τ j o, j :: L, e3, ⟨List.nodup_cons.mpr ⟨hjL, hI.1⟩, fun m hm => ?_, fun i hi => ?_⟩, htle, fun j' hj' => ?_, Or.inl e1, hoff2⟩
      · rcases List.mem_cons.mp hm with z | z
        · rw [z]; exact ⟨hjl, by unfold tupd; rw [if_pos rfl]; exact hone⟩
        · exact ⟨(hI.2.1 m z).1, (htle m (hI.2.1 m z).2).1⟩
      · unfold tupd at hi ⊢
        by_cases hij : i = j
        · rw [if_pos hij, hij, hgv, es]
          exact ⟨List.mem_cons_self, hp, by omega⟩
        · rw [if_neg hij] at hi ⊢
          have a := hI.2.2 i hi
          rw [es]
          exact ⟨List.mem_cons_of_mem _ a.1, a.2.1, by have := a.2.2; omega⟩
      · rw [uniq j' hj']; unfold tupd; rw [if_pos rfl]; exact ⟨hone, Nat.le_refl _⟩
  · exact ⟨τ, L, ht, hI, tle.rf, fun j' hj' => by rw [uniq j' hj']; exact ⟨e2, e3⟩, Or.inr ⟨e1, rfl⟩, am_off.rf⟩

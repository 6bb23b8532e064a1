/-! ===== the reference (cell 0, its arrays 1 to 20): the picture of the mathematical object ===== -/
/-- what is not in these fields of cell 0, nor in these arrays, is as it was -/
def fr (fs as : List Nat) (σ σ' : am_St) : Prop := (∀ p j, (p ≠ 0 ∨ j ∉ fs) → σ'.1 p j = σ.1 p j ∧ σ'.2.1 p j = σ.2.1 p j) ∧ ∀ k, k ∉ as → ∀ i, σ'.2.2 k i = σ.2.2 k i
theorem fr.rf {fs as : List Nat} {σ : am_St} : fr fs as σ σ := ⟨fun _ _ _ => ⟨rfl, rfl⟩, fun _ _ _ => rfl⟩
theorem fr.tr {fs as : List Nat} {σ σ' σ'' : am_St} (h1 : fr fs as σ σ') (h2 : fr fs as σ' σ'') : fr fs as σ σ'' := ⟨fun p j hp => ⟨((h2.1 p j hp).1).trans (h1.1 p j hp).1, ((h2.1 p j hp).2).trans (h1.1 p j hp).2⟩, fun k hk i => (h2.2 k hk i).trans (h1.2 k hk i)⟩
theorem fr.wk {fs as fs' as' : List Nat} {σ σ' : am_St} (h : fr fs as σ σ') (h1 : ∀ p ∈ fs, p ∈ fs') (h2 : ∀ p ∈ as, p ∈ as') : fr fs' as' σ σ' := ⟨fun p j hp => h.1 p j (hp.imp id (fun z z2 => z (h1 _ z2))), fun k hk i => h.2 k (fun z => hk (h2 _ z)) i⟩
theorem fr_si {fs as : List Nat} {σ : am_St} {j : Nat} {v : Int} (h : j ∈ fs) : fr fs as σ (am_si σ 0 j v) := by
  refine ⟨fun p i hp => ⟨?_, rfl⟩, fun _ _ _ => rfl⟩
  show (if p = 0 ∧ i = j then v else σ.1 p i) = _
  rw [if_neg]
  rintro ⟨e1, e2⟩
  rcases hp with z | z
  · exact z e1
  · exact z (e2 ▸ h)
theorem fr_sl {fs as : List Nat} {σ : am_St} {j : Nat} {v : Int} (h : j ∈ fs) : fr fs as σ (am_sl σ 0 j v) := by
  refine ⟨fun p i hp => ⟨rfl, ?_⟩, fun _ _ _ => rfl⟩
  show (if p = 0 ∧ i = j then v else σ.2.1 p i) = _
  rw [if_neg]
  rintro ⟨e1, e2⟩
  rcases hp with z | z
  · exact z e1
  · exact z (e2 ▸ h)
theorem fr_sa {fs as : List Nat} {σ : am_St} {k : Nat} {i v : Int} (h : k ∈ as) : fr fs as σ (am_sa σ k i v) := by
  refine ⟨fun _ _ _ => ⟨rfl, rfl⟩, fun k' hk i' => ?_⟩
  show (if k' = k ∧ i' = i then v else σ.2.2 k' i') = _
  rw [if_neg]
  rintro ⟨e1, _⟩
  exact hk (e1 ▸ h)
def XM : List Nat := List.range 21
theorem fr.off {fs as : List Nat} {σ σ' : am_St} (h : fr fs as σ σ') (ha : ∀ p ∈ as, p < 21) : am_off XM σ σ' := by
  intro p hp
  have hp2 : ¬ p < 21 := fun z => hp (List.mem_range.mpr z)
  exact ⟨fun j => (h.1 p j (Or.inl (by omega))).1, fun j => (h.1 p j (Or.inl (by omega))).2, h.2 p (fun z => hp2 (ha p z))⟩
theorem fr.f {fs as : List Nat} {σ σ' : am_St} (h : fr fs as σ σ') (j : Nat) (hj : j ∉ fs) : σ'.1 0 j = σ.1 0 j := (h.1 0 j (Or.inr hj)).1
/-- the array k holds the list -/
def arA (σ : am_St) (k : Nat) (xs : List Int) : Prop := ∀ j : Nat, j < xs.length → σ.2.2 k (j : Int) = ln_at xs (j : Int)
/-- the arrays of lengths and of characters hold the words, three places each -/
def wdA (σ : am_St) (kl ka : Nat) (W : List (List Int)) : Prop := ∀ i : Nat, i < W.length → σ.2.2 kl (i : Int) = ((W.getD i []).length : Int) ∧ ∀ j : Nat, j < (W.getD i []).length → σ.2.2 ka (3 * (i : Int) + (j : Int)) = ln_at (W.getD i []) (j : Int)
theorem arA.fr {fs as : List Nat} {σ σ' : am_St} {k : Nat} {xs : List Int} (h : arA σ k xs) (ho : fr fs as σ σ') (hk : k ∉ as) : arA σ' k xs := fun j hj => by rw [ho.2 k hk]; exact h j hj
theorem wdA.fr {fs as : List Nat} {σ σ' : am_St} {kl ka : Nat} {W : List (List Int)} (h : wdA σ kl ka W) (ho : fr fs as σ σ') (h1 : kl ∉ as) (h2 : ka ∉ as) : wdA σ' kl ka W := fun i hi => ⟨by rw [ho.2 kl h1]; exact (h i hi).1, fun j hj => by rw [ho.2 ka h2]; exact (h i hi).2 j hj⟩
/-- the rules, at the marks m -/
def tbM (σ : am_St) (L R : List (List Int)) (m : Nat) : Prop := σ.1 0 0 = (R.length : Int) ∧ σ.1 0 6 = (m : Int) ∧ wdA σ 1 3 L ∧ wdA σ 2 4 R ∧ tabOK L R m
theorem tbM.fr {fs as : List Nat} {σ σ' : am_St} {L R : List (List Int)} {m : Nat} (h : tbM σ L R m) (ho : fr fs as σ σ') (h1 : ∀ p ∈ [0, 6], p ∉ fs) (h2 : ∀ p ∈ [1, 2, 3, 4], p ∉ as) : tbM σ' L R m :=
  ⟨by rw [ho.f 0 (h1 0 (by decide))]; exact h.1, by rw [ho.f 6 (h1 6 (by decide))]; exact h.2.1, h.2.2.1.fr ho (h2 1 (by decide)) (h2 3 (by decide)), h.2.2.2.1.fr ho (h2 2 (by decide)) (h2 4 (by decide)), h.2.2.2.2⟩
def RepM (σ : am_St) (s : mS) : Prop := tbM σ s.1 s.2.1 s.2.2.1 ∧ σ.1 0 5 = (s.2.2.1 : Int) ∧ (σ.1 0 7 = (s.2.2.2.1.length : Int) ∧ arA σ 5 s.2.2.2.1 ∧ okl s.2.2.2.1 ∧ s.2.2.2.1.length ≤ 56) ∧ (σ.1 0 9 = (s.2.2.2.2.1.length : Int) ∧ arA σ 6 s.2.2.2.2.1 ∧ okl s.2.2.2.2.1 ∧ s.2.2.2.2.1.length ≤ 56) ∧ σ.1 0 11 = s.2.2.2.2.2.1 ∧ σ.1 0 12 = s.2.2.2.2.2.2.1 ∧ σ.1 0 13 = s.2.2.2.2.2.2.2 ∧ (σ.1 0 29 = 0 ∨ σ.1 0 29 = 1)
theorem RepM.fr {fs as : List Nat} {σ σ' : am_St} {s : mS} (h : RepM σ s) (ho : fr fs as σ σ') (h1 : ∀ p ∈ [0, 5, 6, 7, 9, 11, 12, 13, 29], p ∉ fs) (h2 : ∀ p ∈ [1, 2, 3, 4, 5, 6], p ∉ as) : RepM σ' s :=
  ⟨h.1.fr ho (fun p hp => h1 p (by revert p; decide)) (fun p hp => h2 p (by revert p; decide)), by rw [ho.f 5 (h1 5 (by decide))]; exact h.2.1, ⟨by rw [ho.f 7 (h1 7 (by decide))]; exact h.2.2.1.1, h.2.2.1.2.1.fr ho (h2 5 (by decide)), h.2.2.1.2.2⟩, ⟨by rw [ho.f 9 (h1 9 (by decide))]; exact h.2.2.2.1.1, h.2.2.2.1.2.1.fr ho (h2 6 (by decide)), h.2.2.2.1.2.2⟩, by rw [ho.f 11 (h1 11 (by decide))]; exact h.2.2.2.2.1, by rw [ho.f 12 (h1 12 (by decide))]; exact h.2.2.2.2.2.1, by rw [ho.f 13 (h1 13 (by decide))]; exact h.2.2.2.2.2.2.1, by rw [ho.f 29 (h1 29 (by decide))]; exact h.2.2.2.2.2.2.2⟩
/-- comparing a with the beginning of b: after i characters -/
def pb (a b : List Int) (i : Nat) : Int := if a.length ≤ b.length ∧ a.take i <+: b then 1 else 0
theorem pb_0 (a b : List Int) : pb a b 0 = if a.length ≤ b.length then 1 else 0 := by unfold pb; simp
theorem pb_01 (a b : List Int) (i : Nat) : pb a b i = 0 ∨ pb a b i = 1 := by unfold pb; split <;> simp
theorem pb_len {a b : List Int} {i : Nat} (h : pb a b i ≠ 0) : a.length ≤ b.length := by
  unfold pb at h
  by_cases hc : a.length ≤ b.length ∧ a.take i <+: b
  · exact hc.1
  · rw [if_neg hc] at h; exact absurd rfl h
theorem take_snoc {a : List Int} {i : Nat} (h : i < a.length) : a.take (i + 1) = a.take i ++ [ln_at a (i : Int)] := by
  rw [List.take_succ_eq_append_getElem h, ln_at_get (List.getElem?_eq_getElem h)]
theorem pb_step {a b : List Int} {i : Nat} (hi : i < a.length) (h : pb a b i ≠ 0) : pb a b (i + 1) = if ln_at a (i : Int) = ln_at b (i : Int) then 1 else 0 := by
  have hl := pb_len h
  have hp : a.take i <+: b := by
    unfold pb at h
    by_cases hc : a.length ≤ b.length ∧ a.take i <+: b
    · exact hc.2
    · rw [if_neg hc] at h; exact absurd rfl h
  have hib : i < b.length := by omega
  have e : a.take i = b.take i := by
    have := List.prefix_iff_eq_take.mp hp
    rw [List.length_take, Nat.min_eq_left (by omega)] at this
    exact this
  have key : a.take (i + 1) <+: b ↔ ln_at a (i : Int) = ln_at b (i : Int) := by
    rw [List.prefix_iff_eq_take, List.length_take, Nat.min_eq_left (by omega), take_snoc hi, take_snoc hib, e]
    constructor
    · intro z
      have := List.append_cancel_left z
      simpa using this
    · intro z; rw [z]
  unfold pb
  by_cases hc : ln_at a (i : Int) = ln_at b (i : Int)
  · rw [if_pos ⟨hl, key.mpr hc⟩, if_pos hc]
  · rw [if_neg (fun z => hc (key.mp z.2)), if_neg hc]
theorem pb_end {a b : List Int} {i : Nat} (h : a.length ≤ i ∨ pb a b i = 0) : pb a b i = if a <+: b then 1 else 0 := by
  rcases h with z | z
  · unfold pb
    rw [List.take_of_length_le z]
    by_cases hc : a <+: b
    · rw [if_pos ⟨hc.length_le, hc⟩, if_pos hc]
    · rw [if_neg (fun q => hc q.2), if_neg hc]
  · rw [z, if_neg]
    intro hp
    unfold pb at z
    rw [if_pos ⟨hp.length_le, (List.take_prefix i a).trans hp⟩] at z
    exact absurd z (by decide)
theorem ev_X11_within {σ : am_St} {v a b : Int} (hv : inR v) (ha : inR a) (hb : inR b) : am_Ev SH mX11_within 0 [.int (iZ v), .int (iZ a), .int (iZ b)] σ (am_rI (fun x σ2 => x = (if a ≤ v ∧ v ≤ b then 1 else 0) ∧ σ2 = σ)) := by
  refine am_ev (by decide) [some (.int (iZ (v))), some (.int (iZ (a))), some (.int (iZ (b)))] rfl (Nat.le_of_ble_eq_true rfl) ?_
  refine go_iload_n dX11_within_0 rfl ?_
  refine go_iload_n dX11_within_1 rfl ?_
  refine go_icmp_lt (tgt := 14) dX11_within_2 (by decide) hv ha (fun b2 => ?_) (fun b2 => ?_)
  · skip
    refine go_iconst dX11_within_14 ?_
    refine go_retZ dX11_within_15 rfl (by omega) ?_
    refine ⟨?_, rfl⟩
    split <;> omega
  · skip
    refine go_iload_n dX11_within_5 rfl ?_
    refine go_iload_n dX11_within_6 rfl ?_
    refine go_icmp_gt (tgt := 14) dX11_within_7 (by decide) hv hb (fun b7 => ?_) (fun b7 => ?_)
    · skip
      refine go_iconst dX11_within_14 ?_
      refine go_retZ dX11_within_15 rfl (by omega) ?_
      refine ⟨?_, rfl⟩
      split <;> omega
    · skip
      refine go_iconst dX11_within_10 ?_
      refine go_goto (tgt := 15) dX11_within_11 (by decide) ?_
      refine go_retZ dX11_within_15 rfl (by omega) ?_
      refine ⟨?_, rfl⟩
      split <;> omega
theorem ev_X11_isSmall {σ : am_St} {c : Int} (hc : inR c) : am_Ev SH mX11_isSmall 1 [.int (iZ c)] σ (am_rI (fun x σ2 => x = (if 97 ≤ c ∧ c ≤ 122 then 1 else 0) ∧ σ2 = σ)) := by
  refine am_ev (by decide) [some (.int (iZ (c)))] rfl (Nat.le_of_ble_eq_true rfl) ?_
  refine go_iload_n dX11_isSmall_0 rfl ?_
  refine go_bipush dX11_isSmall_1 rfl ?_
  refine go_bipush dX11_isSmall_3 rfl ?_
  refine go_csP3 (M2 := mX11_within) dX11_isSmall_5 ml_X11_71 ms_X11_within (Nat.le_of_ble_eq_true rfl) (by decide) (ev_X11_within hc (by unfold inR; omega) (by unfold inR; omega)) ?_
  refine go_retZ dX11_isSmall_8 rfl (by split <;> simp) ?_
  exact ⟨rfl, rfl⟩
theorem ev_X11_isGreat {σ : am_St} {c : Int} (hc : inR c) : am_Ev SH mX11_isGreat 1 [.int (iZ c)] σ (am_rI (fun x σ2 => x = (if 65 ≤ c ∧ c ≤ 90 then 1 else 0) ∧ σ2 = σ)) := by
  refine am_ev (by decide) [some (.int (iZ (c)))] rfl (Nat.le_of_ble_eq_true rfl) ?_
  refine go_iload_n dX11_isGreat_0 rfl ?_
  refine go_bipush dX11_isGreat_1 rfl ?_
  refine go_bipush dX11_isGreat_3 rfl ?_
  refine go_csP3 (M2 := mX11_within) dX11_isGreat_5 ml_X11_71 ms_X11_within (Nat.le_of_ble_eq_true rfl) (by decide) (ev_X11_within hc (by unfold inR; omega) (by unfold inR; omega)) ?_
  refine go_retZ dX11_isGreat_8 rfl (by split <;> simp) ?_
  exact ⟨rfl, rfl⟩
theorem ln_at_app {xs ys : List Int} {j : Nat} (h : j < xs.length) : ln_at (xs ++ ys) (j : Int) = ln_at xs (j : Int) := by
  rw [ln_at_get (List.getElem?_eq_getElem h), ln_at_get (xs := xs ++ ys) (x := xs[j]) (by rw [List.getElem?_append_left h]; exact List.getElem?_eq_getElem h)]
theorem arA_snoc {σ : am_St} {k : Nat} {xs : List Int} {c : Int} (h : arA σ k xs) : arA (am_sa σ k (xs.length : Int) c) k (xs ++ [c]) := by
  intro j hj
  rw [List.length_append, List.length_singleton] at hj
  show (if k = k ∧ (j : Int) = (xs.length : Int) then c else σ.2.2 k (j : Int)) = _
  by_cases e : j = xs.length
  · rw [if_pos ⟨rfl, by omega⟩, e]
    exact (ln_at_get (by simp)).symm
  · rw [if_neg (by omega), h j (by omega), ln_at_app (by omega)]
theorem ev_X11_letter {σ : am_St} {s : mS} {c : Int} (h : RepM σ s) (hc : inR c) : am_Ev SH mX11_letter 1 [.ref 0, .int (iZ c)] σ (am_rI (fun x σ2 => x = (m_letter s c).1 ∧ RepM σ2 (m_letter s c).2 ∧ am_off XM σ σ2)) := by
  have hrep := h
  obtain ⟨h1, h2, h3, ⟨p1, p2, p3, p4⟩, h5⟩ := h
  have e1 : (am_sa σ 6 (s.2.2.2.2.1.length : Int) c).1 0 9 = (s.2.2.2.2.1.length : Int) := p1
  refine am_ev (by decide) [some (.ref 0), some (.int (iZ (c)))] rfl (Nat.le_of_ble_eq_true rfl) ?_
  refine go_iload_n dX11_letter_0 rfl ?_
  refine go_bipush dX11_letter_1 rfl ?_
  refine go_bipush dX11_letter_3 rfl ?_
  refine go_csP3 (M2 := mX11_within) dX11_letter_5 ml_X11_71 ms_X11_within (Nat.le_of_ble_eq_true rfl) (by decide) (ev_X11_within hc (by unfold inR; omega) (by unfold inR; omega)) ?_
  refine go_if_ne (tgt := 14) dX11_letter_8 (by decide) (by unfold inR; split <;> omega) (fun b8 => ?_) (fun b8 => ?_)
  · skip
    have hb : 32 ≤ c ∧ c ≤ 126 := by by_cases z : 32 ≤ c ∧ c ≤ 126; exact z; rw [if_neg z] at b8; exact absurd rfl b8
    refine go_aload_n dX11_letter_14 rfl ?_
    refine go_geti fl_X11_75 dX11_letter_15 sh_0 rfl ?_
    first | (rw [p1]) | (rw [e1]) | skip
    refine go_bipush dX11_letter_18 rfl ?_
    refine go_icmp_ne (tgt := 26) dX11_letter_20 (by decide) (by unfold inR; omega) (by unfold inR; omega) (fun b20 => ?_) (fun b20 => ?_)
    · skip
      refine go_aload_n dX11_letter_26 rfl ?_
      refine go_getr fl_X11_25 dX11_letter_27 sh_0 rfl ?_
      refine go_aload_n dX11_letter_30 rfl ?_
      refine go_geti fl_X11_75 dX11_letter_31 sh_0 rfl ?_
      first | (rw [p1]) | (rw [e1]) | skip
      refine go_iload_n dX11_letter_34 rfl ?_
      refine go_iastore dX11_letter_35 (by first | assumption | rfl) (by first | assumption | exact Nat.le_of_ble_eq_true rfl) (by omega) (by omega) ?_
      refine go_aload_n dX11_letter_36 rfl ?_
      refine go_dup dX11_letter_37 rfl ?_
      refine go_geti fl_X11_75 dX11_letter_38 sh_0 rfl ?_
      first | (rw [p1]) | (rw [e1]) | skip
      refine go_iconst dX11_letter_41 ?_
      refine go_iadd dX11_letter_42 ?_
      refine go_puti fl_X11_75 dX11_letter_43 sh_0 rfl am_fit_int ?_
      refine go_aload_n dX11_letter_46 rfl ?_
      refine go_geti fl_X11_75 dX11_letter_47 sh_0 rfl ?_
      first | (rw [p1]) | (rw [e1]) | skip
      rw [show (am_si (am_sa σ 6 (s.2.2.2.2.1.length : Int) c) 0 9 ((s.2.2.2.2.1.length : Int) + 1)).1 0 9 = (s.2.2.2.2.1.length : Int) + 1 by simp [am_si]]
      refine go_retI dX11_letter_50 rfl ?_
      unfold m_letter
      rw [if_neg (by omega), if_neg (by omega)]
      have o1 : fr [9] [6] σ (am_si (am_sa σ 6 (s.2.2.2.2.1.length : Int) c) 0 9 ((s.2.2.2.2.1.length : Int) + 1)) := (fr_sa (by decide)).tr (fr_si (by decide))
      have a1 : arA (am_si (am_sa σ 6 (s.2.2.2.2.1.length : Int) c) 0 9 ((s.2.2.2.2.1.length : Int) + 1)) 6 (s.2.2.2.2.1 ++ [c]) := arA_snoc p2
      refine ⟨rfl, ⟨h1.fr o1 (by decide) (by decide), by rw [o1.f 5 (by decide)]; exact h2, ⟨by rw [o1.f 7 (by decide)]; exact h3.1, h3.2.1.fr o1 (by decide), h3.2.2⟩, ⟨by simp [am_si], a1, okl_snoc p3 (by unfold okc; omega), by simp; omega⟩, by rw [o1.f 11 (by decide)]; exact h5.1, by rw [o1.f 12 (by decide)]; exact h5.2.1, by rw [o1.f 13 (by decide)]; exact h5.2.2.1, by rw [o1.f 29 (by decide)]; exact h5.2.2.2⟩, o1.off (by decide)⟩
    · skip
      refine go_bipush dX11_letter_23 rfl ?_
      refine go_retI dX11_letter_25 rfl ?_
      unfold m_letter
      rw [if_neg (by omega), if_pos (by omega)]
      exact ⟨rfl, hrep, am_off.rf⟩
  · skip
    have hb : ¬ (32 ≤ c ∧ c ≤ 126) := fun z => by rw [if_pos z] at b8; exact absurd b8 (by decide)
    refine go_bipush dX11_letter_11 rfl ?_
    refine go_retI dX11_letter_13 rfl ?_
    unfold m_letter
    rw [if_pos (by omega)]
    exact ⟨rfl, hrep, am_off.rf⟩
theorem ev_X11_blank {σ : am_St} {s : mS} (h : RepM σ s) : am_Ev SH mX11_blank 0 [.ref 0] σ (am_rI (fun x σ2 => x = (m_blank s).1 ∧ RepM σ2 (m_blank s).2 ∧ am_off XM σ σ2)) := by
  obtain ⟨h1, h2, h3, ⟨p1, p2, p3, p4⟩, h5⟩ := h
  refine am_ev (by decide) [some (.ref 0), none] rfl (Nat.le_of_ble_eq_true rfl) ?_
  refine go_aload_n dX11_blank_0 rfl ?_
  refine go_geti fl_X11_75 dX11_blank_1 sh_0 rfl ?_
  first | (rw [p1]) | skip
  refine go_ist1 dX11_blank_4 (Nat.le_of_ble_eq_true rfl) rfl ?_
  refine go_aload_n dX11_blank_5 rfl ?_
  refine go_iconst dX11_blank_6 ?_
  refine go_puti fl_X11_75 dX11_blank_7 sh_0 rfl am_fit_int ?_
  refine go_iload_n dX11_blank_10 rfl ?_
  refine go_retI dX11_blank_11 rfl ?_
  have o1 : fr [9] [] σ (am_si σ 0 9 0) := fr_si (by decide)
  refine ⟨rfl, ⟨h1.fr o1 (by decide) (by decide), by rw [o1.f 5 (by decide)]; exact h2, ⟨by rw [o1.f 7 (by decide)]; exact h3.1, h3.2.1.fr o1 (by decide), h3.2.2⟩, ⟨by simp [am_si, m_blank], (fun j hj => absurd hj (by simp [m_blank])), (fun c hc => nomatch hc), by simp [m_blank]⟩, by rw [o1.f 11 (by decide)]; exact h5.1, by rw [o1.f 12 (by decide)]; exact h5.2.1, by rw [o1.f 13 (by decide)]; exact h5.2.2.1, by rw [o1.f 29 (by decide)]; exact h5.2.2.2⟩, o1.off (by decide)⟩

/-! ===== longest match: the mathematics, and the class's Match ===== -/
/-- the first rule with the longest sign that stands at the beginning of t; -1: none -/
def mt_lg (t : List Int) : List (List Int) → Int → Int → Nat → Int
  | [], _, b, _ => b
  | s :: S, i, b, L => if s <+: t ∧ L < s.length then mt_lg t S (i + 1) i s.length else mt_lg t S (i + 1) b L
def mt_long (S : List (List Int)) (t : List Int) : Int := mt_lg t S 0 (-1) 0
/-- the rules of the decoding by longest match, and the place where it ends -/
def mt_dec (S : List (List Int)) : Nat → List Int → Int → List Int × Int
  | 0, _, p => ([], p)
  | f + 1, t, p => if t = [] then ([], p) else if mt_long S t = -1 then ([], p) else
      ((mt_long S t) :: (mt_dec S f (t.drop (S.getD (mt_long S t).toNat []).length) (p + (S.getD (mt_long S t).toNat []).length)).1,
       (mt_dec S f (t.drop (S.getD (mt_long S t).toNat []).length) (p + (S.getD (mt_long S t).toNat []).length)).2)
/-- words of at most four characters -/
def okw (S : List (List Int)) : Prop := ∀ s ∈ S, okl s ∧ s.length ≤ 4
theorem mt_lg_bd (t : List Int) : ∀ (S : List (List Int)) (i b : Int) (L : Nat), (b = -1 ∨ (0 ≤ b ∧ b < i)) → 0 ≤ i → mt_lg t S i b L = -1 ∨ (0 ≤ mt_lg t S i b L ∧ mt_lg t S i b L < i + S.length)
  | [], i, b, L, h, h0 => by
    show b = -1 ∨ (0 ≤ b ∧ b < i + (0 : Nat))
    rcases h with h | h
    · exact Or.inl h
    · exact Or.inr ⟨h.1, by omega⟩
  | s :: S, i, b, L, h, h0 => by
    unfold mt_lg
    have e : ((s :: S).length : Int) = S.length + 1 := by simp
    rw [e]
    split
    · rcases mt_lg_bd t S (i + 1) i s.length (Or.inr ⟨h0, by omega⟩) (by omega) with q | q
      · exact Or.inl q
      · exact Or.inr ⟨q.1, by omega⟩
    · rcases mt_lg_bd t S (i + 1) b L (by omega) (by omega) with q | q
      · exact Or.inl q
      · exact Or.inr ⟨q.1, by omega⟩
theorem mt_long_bd (S : List (List Int)) (t : List Int) : mt_long S t = -1 ∨ (0 ≤ mt_long S t ∧ mt_long S t < S.length) := by
  rcases mt_lg_bd t S 0 (-1) 0 (Or.inl rfl) (by omega) with h | h
  · exact Or.inl h
  · exact Or.inr ⟨h.1, by have := h.2; unfold mt_long; omega⟩
theorem mt_lg_fit (t : List Int) (S0 : List (List Int)) : ∀ (S : List (List Int)) (i : Nat) (b : Int) (L : Nat), S0.drop i = S → (b = -1 ∨ (0 ≤ b ∧ S0.getD b.toNat [] <+: t ∧ 0 < (S0.getD b.toNat []).length)) → mt_lg t S i b L ≠ -1 → S0.getD (mt_lg t S i b L).toNat [] <+: t ∧ 0 < (S0.getD (mt_lg t S i b L).toNat []).length
  | [], i, b, L, hd, h, hne => by
    unfold mt_lg at hne ⊢
    rcases h with h | h
    · exact absurd h hne
    · exact h.2
  | s :: S, i, b, L, hd, h, hne => by
    have hi : S0[i]? = some s := by
      have := congrArg (fun l => l[0]?) hd
      simpa using this
    have hd2 : S0.drop (i + 1) = S := by
      have := congrArg List.tail hd
      simpa using this
    have e : (((i + 1 : Nat)) : Int) = (i : Int) + 1 := by omega
    unfold mt_lg at hne ⊢
    rw [← e] at hne ⊢
    split at hne
    · rename_i hc
      rw [if_pos hc]
      refine mt_lg_fit t S0 S (i + 1) i s.length hd2 (Or.inr ⟨by omega, ?_⟩) hne
      rw [Int.toNat_natCast, List.getD_eq_getElem?_getD, hi]
      exact ⟨hc.1, by show 0 < s.length; omega⟩
    · rename_i hc
      rw [if_neg hc]
      exact mt_lg_fit t S0 S (i + 1) b L hd2 h hne
theorem mt_long_pre (S : List (List Int)) (t : List Int) (h : mt_long S t ≠ -1) : S.getD (mt_long S t).toNat [] <+: t ∧ 0 < (S.getD (mt_long S t).toNat []).length := mt_lg_fit t S S 0 (-1) 0 rfl (Or.inl rfl) h
theorem mt_long_fit (S : List (List Int)) (t : List Int) (h : mt_long S t ≠ -1) : (S.getD (mt_long S t).toNat []).length ≤ t.length := (mt_long_pre S t h).1.length_le
theorem mt_len (S : List (List Int)) : ∀ (f : Nat) (t : List Int) (p : Int), (mt_dec S f t p).1.length ≤ f ∧ ∀ r ∈ (mt_dec S f t p).1, 0 ≤ r ∧ r < S.length
  | 0, t, p => by simp [mt_dec]
  | f + 1, t, p => by
    unfold mt_dec
    split
    · simp
    · split
      · simp
      · rename_i h1 h2
        have ih := mt_len S f (t.drop (S.getD (mt_long S t).toNat []).length) (p + (S.getD (mt_long S t).toNat []).length)
        refine ⟨by simp only [List.length_cons]; omega, fun r hr => ?_⟩
        rcases List.mem_cons.mp hr with h | h
        · rw [h]
          rcases mt_long_bd S t with q | q
          · exact absurd q h2
          · exact q
        · exact ih.2 r h
theorem ln_at_map {S : List (List Int)} {i : Int} (h0 : 0 ≤ i) (h1 : i < S.length) : ln_at (S.map enc) i = enc (S.getD i.toNat []) := by
  have hlt : i.toNat < S.length := by omega
  have : (S.map enc)[i.toNat]? = some (enc (S.getD i.toNat [])) := by
    rw [List.getElem?_map, List.getElem?_eq_getElem hlt, List.getD_eq_getElem?_getD, List.getElem?_eq_getElem hlt]
    rfl
  have h2 := ln_at_get this
  rwa [Int.toNat_of_nonneg h0] at h2
theorem okw_get {S : List (List Int)} (h : okw S) (i : Nat) : okl (S.getD i []) ∧ (S.getD i []).length ≤ 4 := by
  rw [List.getD_eq_getElem?_getD]
  cases hs : S[i]? with
  | none => exact ⟨fun c hc => by simp at hc, by simp⟩
  | some s => exact h s (List.mem_of_getElem? hs)
theorem ev_X2_endOf {σ : am_St} {k n : Nat} {xs l : List Int} {p : Int} (h : hold σ k n xs) (hl : okl l) (h4 : l.length ≤ 4) (h0 : 0 ≤ p) (h1 : p ≤ n) (hn : n < 1000000) : am_Ev SH mX2_endOf 1 [.int (iZ (enc l)), .ref k, .int (iZ p)] σ (am_rI (fun x σ2 => x = (if l <+: xs.drop p.toNat then p + l.length else -1) ∧ σ2 = σ)) := by
  have hk := h.1
  have loop : ∀ (m : Nat) (i : Nat), l.length - i < m → i ≤ l.length → (∀ j, j < i → (xs.drop p.toNat)[j]? = l[j]?) → am_Go SH mX2_endOf 1 (am_rI (fun x σ2 => x = (if l <+: xs.drop p.toNat then p + l.length else -1) ∧ σ2 = σ)) 10 [some (.int (iZ (enc l))), some (.ref k), some (.int (iZ p)), some (.int (iZ (p + l.length))), some (.int (iZ (p + i)))] [] σ := by
    intro m
    induction m with
    | zero => intro i hm; exact absurd hm (by omega)
    | succ m ih =>
      intro i hm hil hin
      refine go_iload dX2_endOf_10 rfl ?_
      refine go_iload_n dX2_endOf_12 rfl ?_
      refine go_icmp_ge (tgt := 43) dX2_endOf_13 (by decide) (by unfold inR; omega) (by unfold inR; omega) (fun b13 => ?_) (fun b13 => ?_)
      · skip
        refine go_iload_n dX2_endOf_43 rfl ?_
        refine go_retI dX2_endOf_44 rfl ?_
        refine ⟨?_, rfl⟩
        have hfull : i = l.length := by omega
        subst hfull
        rw [if_pos (List.prefix_iff_getElem?.mpr (fun j hj => by rw [hin j hj, List.getElem?_eq_getElem hj]))]
      · skip
        refine go_aload_n dX2_endOf_16 rfl ?_
        refine go_iload dX2_endOf_17 rfl ?_
        refine go_cvP1 (M2 := mX1_at) dX2_endOf_19 ml_X2_15 mv_X1_at (by assumption) rfl rfl (Nat.le_of_ble_eq_true rfl) (by decide) (ev_X1_at h (by unfold inR; omega)) ?_
        refine go_iload_n dX2_endOf_22 rfl ?_
        refine go_iload_n dX2_endOf_23 rfl ?_
        refine go_iconst dX2_endOf_24 ?_
        refine go_isub dX2_endOf_25 ?_
        refine go_iload dX2_endOf_26 rfl ?_
        refine go_isub dX2_endOf_28 ?_
        refine go_csP2 (M2 := mX9_fromEnd) dX2_endOf_29 ml_X2_20 ms_X9_fromEnd (Nat.le_of_ble_eq_true rfl) (by decide) (ev_X9_fromEnd) ?_
        have e1 : p + (l.length : Int) - 1 - (p + i) = ((l.length - 1 - i : Nat) : Int) := by omega
        rw [e1]
        have e2 := wd_fe_enc hl h4 (o := l.length - 1 - i) (by omega)
        rw [show l.length - 1 - (l.length - 1 - i) = i by omega] at e2
        have ei : ((p + (i : Int)).toNat) = p.toNat + i := by omega
        have ec : okc (wd_fe (enc l) ((l.length - 1 - i : Nat) : Int)) := hl _ (List.mem_of_getElem? e2)
        refine go_icmp_eq (tgt := 37) dX2_endOf_32 (by decide) (ln_at_R h.2.2.2.2.2.2) (wd_fe_R _ _) (fun b32 => ?_) (fun b32 => ?_)
        · skip
          refine go_inc4 dX2_endOf_37 (Nat.le_of_ble_eq_true rfl) rfl ?_
          refine go_goto (tgt := 10) dX2_endOf_40 (by decide) ?_
          rw [show p + (i : Int) + 1 = p + ((i + 1 : Nat) : Int) by omega]
          refine ih (i + 1) (by omega) (by omega) (fun j hj => ?_)
          by_cases hji : j = i
          · subst hji
            have hx : (xs.length : Int) > p + j := by
              apply Int.not_le.mp
              intro q
              unfold ln_at at b32
              rw [if_pos (Or.inr q)] at b32
              unfold okc at ec
              omega
            rw [List.getElem?_drop, e2, ← b32, ← ei]
            unfold ln_at
            rw [if_neg (by omega), List.getD_eq_getElem?_getD, List.getElem?_eq_getElem (by omega)]
            rfl
          · exact hin j (by omega)
        · skip
          refine go_iconst dX2_endOf_35 ?_
          refine go_retI dX2_endOf_36 rfl ?_
          refine ⟨?_, rfl⟩
          rw [if_neg]
          intro hp
          have q := List.prefix_iff_getElem?.mp hp i (by omega)
          rw [List.getElem?_drop, ← ei] at q
          have q2 := ln_at_get q
          rw [Int.toNat_of_nonneg (by omega)] at q2
          rw [List.getElem?_eq_getElem (show i < l.length by omega)] at e2
          exact b32 (by rw [q2, ← Option.some.inj e2])
  refine am_ev (by decide) [some (.int (iZ (enc l))), some (.ref k), some (.int (iZ (p))), none, none] rfl (Nat.le_of_ble_eq_true rfl) ?_
  refine go_iload_n dX2_endOf_0 rfl ?_
  refine go_iload_n dX2_endOf_1 rfl ?_
  refine go_csP1 (M2 := mX9_size) dX2_endOf_2 ml_X2_9 ms_X9_size (Nat.le_of_ble_eq_true rfl) (by decide) (ev_X9_size (enc_inR hl h4)) ?_
  rw [wd_sz_enc hl h4]
  refine go_iadd dX2_endOf_5 ?_
  refine go_ist3 dX2_endOf_6 (Nat.le_of_ble_eq_true rfl) rfl ?_
  refine go_iload_n dX2_endOf_7 rfl ?_
  refine go_ist4 dX2_endOf_8 (Nat.le_of_ble_eq_true rfl) rfl ?_
  have := loop (l.length + 1) 0 (by omega) (by omega) (fun j hj => absurd hj (by omega))
  rwa [show p + ((0 : Nat) : Int) = p by omega] at this
theorem ev_X2_longest {σ : am_St} {k n k2 n2 : Nat} {xs : List Int} {S : List (List Int)} {p : Int} (h : hold σ k n (S.map enc)) (g : hold σ k2 n2 xs) (hS : okw S) (h0 : 0 ≤ p) (h1 : p ≤ n2) (hn : n2 < 1000000) : am_Ev SH mX2_longest 2 [.ref k, .ref k2, .int (iZ p)] σ (am_rI (fun x σ2 => x = mt_long S (xs.drop p.toNat) ∧ σ2 = σ)) := by
  have hk := h.1
  have hk2 := g.1
  have hl5 := h.2.2.2.2.1
  have hl3 := h.2.2.1
  have loop : ∀ (m : Nat) (i : Nat) (b : Int) (L : Nat), S.length - i < m → i ≤ S.length → inR b → L ≤ 4 → mt_lg (xs.drop p.toNat) (S.drop i) i b L = mt_long S (xs.drop p.toNat) → ∀ w : Option Value, am_Go SH mX2_longest 2 (am_rI (fun x σ2 => x = mt_long S (xs.drop p.toNat) ∧ σ2 = σ)) 8 [some (.ref k), some (.ref k2), some (.int (iZ p)), some (.int (iZ b)), some (.int (iZ (p + L))), some (.int (iZ i)), w] [] σ := by
    intro m
    induction m with
    | zero => intro i b L hm; exact absurd hm (by omega)
    | succ m ih =>
      intro i b L hm hil hb hL4 hinv w
      rw [List.length_map] at hl5
      refine go_iload dX2_longest_8 rfl ?_
      refine go_aload_n dX2_longest_10 rfl ?_
      refine go_cvP0 (M2 := mX1_size) dX2_longest_11 ml_X2_24 mv_X1_size (by assumption) rfl rfl (Nat.le_of_ble_eq_true rfl) (by decide) (ev_X1_size h) ?_
      rw [List.length_map]
      refine go_icmp_ge (tgt := 50) dX2_longest_14 (by decide) (by unfold inR; omega) (by unfold inR; omega) (fun b14 => ?_) (fun b14 => ?_)
      · skip
        refine go_iload_n dX2_longest_50 rfl ?_
        refine go_retI dX2_longest_51 rfl ?_
        refine ⟨?_, rfl⟩
        have hfull : i = S.length := by omega
        subst hfull
        rw [List.drop_length] at hinv
        exact hinv
      · skip
        refine go_aload_n dX2_longest_17 rfl ?_
        refine go_iload dX2_longest_18 rfl ?_
        refine go_cvP1 (M2 := mX1_at) dX2_longest_20 ml_X2_15 mv_X1_at (by assumption) rfl rfl (Nat.le_of_ble_eq_true rfl) (by decide) (ev_X1_at h (by unfold inR; omega)) ?_
        rw [ln_at_map (by omega) (by omega), Int.toNat_natCast]
        refine go_aload_n dX2_longest_23 rfl ?_
        refine go_iload_n dX2_longest_24 rfl ?_
        refine go_csP3 (M2 := mX2_endOf) dX2_longest_25 ml_X2_27 ms_X2_endOf (Nat.le_of_ble_eq_true rfl) (by decide) (ev_X2_endOf g (okw_get hS i).1 (okw_get hS i).2 h0 h1 hn) ?_
        have hlt : i < S.length := by omega
        have hsi : S.getD i [] = S[i] := by rw [List.getD_eq_getElem?_getD, List.getElem?_eq_getElem hlt]; rfl
        have hs4 := (okw_get hS i).2
        rw [List.drop_eq_getElem_cons hlt] at hinv
        unfold mt_lg at hinv
        rw [← hsi] at hinv
        obtain ⟨E, hE⟩ : ∃ E : Int, E = (if S.getD i [] <+: xs.drop p.toNat then p + (S.getD i []).length else -1) := ⟨_, rfl⟩
        rw [← hE]
        have hER : inR E := by rw [hE]; unfold inR; split <;> omega
        refine go_ist6 dX2_longest_28 (Nat.le_of_ble_eq_true rfl) rfl ?_
        refine go_iload dX2_longest_30 rfl ?_
        refine go_iload dX2_longest_32 rfl ?_
        refine go_icmp_le (tgt := 44) dX2_longest_34 (by decide) hER (by unfold inR; omega) (fun b34 => ?_) (fun b34 => ?_)
        · skip
          skip
          refine go_inc5 dX2_longest_44 (Nat.le_of_ble_eq_true rfl) rfl ?_
          refine go_goto (tgt := 8) dX2_longest_47 (by decide) ?_
          rw [show (i : Int) + 1 = ((i + 1 : Nat) : Int) by omega]
          first
            | (have hc : S.getD i [] <+: xs.drop p.toNat ∧ L < (S.getD i []).length := by
                 by_cases hp : S.getD i [] <+: xs.drop p.toNat
                 · rw [if_pos hp] at hE; exact ⟨hp, by omega⟩
                 · rw [if_neg hp] at hE; exfalso; omega
               rw [if_pos hc] at hinv
               rw [if_pos hc.1] at hE
               have := ih (i + 1) i (S.getD i []).length (by omega) (by omega) (by unfold inR; omega) hs4 (by rw [← hinv]; congr 1) (some (.int (iZ E)))
               rw [← hE] at this
               exact this)
            | (have hc : ¬ (S.getD i [] <+: xs.drop p.toNat ∧ L < (S.getD i []).length) := by
                 rintro ⟨hp, hq⟩
                 rw [if_pos hp] at hE; omega
               rw [if_neg hc] at hinv
               exact ih (i + 1) b L (by omega) (by omega) hb hL4 (by rw [← hinv]; congr 1) _)
        · skip
          refine go_iload dX2_longest_37 rfl ?_
          refine go_ist3 dX2_longest_39 (Nat.le_of_ble_eq_true rfl) rfl ?_
          refine go_iload dX2_longest_40 rfl ?_
          refine go_ist4 dX2_longest_42 (Nat.le_of_ble_eq_true rfl) rfl ?_
          skip
          refine go_inc5 dX2_longest_44 (Nat.le_of_ble_eq_true rfl) rfl ?_
          refine go_goto (tgt := 8) dX2_longest_47 (by decide) ?_
          rw [show (i : Int) + 1 = ((i + 1 : Nat) : Int) by omega]
          first
            | (have hc : S.getD i [] <+: xs.drop p.toNat ∧ L < (S.getD i []).length := by
                 by_cases hp : S.getD i [] <+: xs.drop p.toNat
                 · rw [if_pos hp] at hE; exact ⟨hp, by omega⟩
                 · rw [if_neg hp] at hE; exfalso; omega
               rw [if_pos hc] at hinv
               rw [if_pos hc.1] at hE
               have := ih (i + 1) i (S.getD i []).length (by omega) (by omega) (by unfold inR; omega) hs4 (by rw [← hinv]; congr 1) (some (.int (iZ E)))
               rw [← hE] at this
               exact this)
            | (have hc : ¬ (S.getD i [] <+: xs.drop p.toNat ∧ L < (S.getD i []).length) := by
                 rintro ⟨hp, hq⟩
                 rw [if_pos hp] at hE; omega
               rw [if_neg hc] at hinv
               exact ih (i + 1) b L (by omega) (by omega) hb hL4 (by rw [← hinv]; congr 1) _)
  refine am_ev (by decide) [some (.ref k), some (.ref k2), some (.int (iZ (p))), none, none, none, none] rfl (Nat.le_of_ble_eq_true rfl) ?_
  refine go_iconst dX2_longest_0 ?_
  refine go_ist3 dX2_longest_1 (Nat.le_of_ble_eq_true rfl) rfl ?_
  refine go_iload_n dX2_longest_2 rfl ?_
  refine go_ist4 dX2_longest_3 (Nat.le_of_ble_eq_true rfl) rfl ?_
  refine go_iconst dX2_longest_5 ?_
  refine go_ist5 dX2_longest_6 (Nat.le_of_ble_eq_true rfl) rfl ?_
  have := loop (S.length + 1) 0 (-1) 0 (by omega) (by omega) (by unfold inR; omega) (by omega) rfl none
  rwa [show p + ((0 : Nat) : Int) = p by omega] at this

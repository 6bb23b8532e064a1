/-! ===== the reference: reading a page ===== -/
theorem wdA_app {σ : am_St} {kl ka n : Nat} {W : List (List Int)} {w : List Int} {c : Int} (h : wdA σ kl ka (W ++ [w])) (hW : ∀ x ∈ W, x.length ≤ 3) (hl : w.length < 3) (hne : kl ≠ ka) (hn : W.length = n) : wdA (am_sa (am_sa σ ka (3 * (n : Int) + (w.length : Int)) c) kl (n : Int) ((w.length : Int) + 1)) kl ka (W ++ [w ++ [c]]) := by
  subst hn
  intro i hi
  rw [List.length_append, List.length_singleton] at hi
  have key := h i (by rw [List.length_append, List.length_singleton]; exact hi)
  by_cases e : i = W.length
  · subst e
    have g1 : (W ++ [w]).getD W.length [] = w := by simp [List.getD]
    have g2 : (W ++ [w ++ [c]]).getD W.length [] = w ++ [c] := by simp [List.getD]
    rw [g1] at key
    rw [g2]
    refine ⟨by simp [am_sa], fun j hj => ?_⟩
    rw [List.length_append, List.length_singleton] at hj
    show (if ka = kl ∧ 3 * ((W.length : Nat) : Int) + (j : Int) = ((W.length : Nat) : Int) then _ else (if ka = ka ∧ 3 * ((W.length : Nat) : Int) + (j : Int) = 3 * ((W.length : Nat) : Int) + (w.length : Int) then c else σ.2.2 ka (3 * ((W.length : Nat) : Int) + (j : Int)))) = _
    rw [if_neg (fun z => hne z.1.symm)]
    by_cases e2 : j = w.length
    · rw [if_pos ⟨rfl, by omega⟩, e2]
      exact (ln_at_get (by simp)).symm
    · rw [if_neg (by omega), key.2 j (by omega), ln_at_app (by omega)]
  · have hi2 : i < W.length := by omega
    have g1 : (W ++ [w]).getD i [] = W.getD i [] := by simp [List.getD, List.getElem?_append_left hi2]
    have g2 : (W ++ [w ++ [c]]).getD i [] = W.getD i [] := by simp [List.getD, List.getElem?_append_left hi2]
    rw [g1] at key
    rw [g2]
    have h3 : (W.getD i []).length ≤ 3 := by
      have e3 : W.getD i [] = W[i] := by simp [List.getD, hi2]
      rw [e3]; exact hW _ (List.getElem_mem hi2)
    refine ⟨?_, fun j hj => ?_⟩
    · show (if kl = kl ∧ (i : Int) = ((W.length : Nat) : Int) then _ else (if kl = ka ∧ _ then c else σ.2.2 kl (i : Int))) = _
      rw [if_neg (by omega), if_neg (fun z => hne z.1)]
      exact key.1
    · show (if ka = kl ∧ _ then _ else (if ka = ka ∧ 3 * (i : Int) + (j : Int) = 3 * ((W.length : Nat) : Int) + (w.length : Int) then c else σ.2.2 ka (3 * (i : Int) + (j : Int)))) = _
      rw [if_neg (fun z => hne z.1.symm), if_neg (by omega)]
      exact key.2 j hj
theorem wdA_new {σ : am_St} {kl ka n : Nat} {W : List (List Int)} (h : wdA σ kl ka W) (hne : kl ≠ ka) (hn : W.length = n) : wdA (am_sa σ kl (n : Int) 0) kl ka (W ++ [[]]) := by
  subst hn
  intro i hi
  rw [List.length_append, List.length_singleton] at hi
  by_cases e : i = W.length
  · subst e
    have g2 : (W ++ [[]]).getD W.length [] = [] := by simp [List.getD]
    rw [g2]
    exact ⟨by simp [am_sa], fun j hj => absurd hj (by simp)⟩
  · have hi2 : i < W.length := by omega
    have key := h i hi2
    have g2 : (W ++ [[]]).getD i [] = W.getD i [] := by simp [List.getD, List.getElem?_append_left hi2]
    rw [g2]
    refine ⟨?_, fun j hj => ?_⟩
    · show (if kl = kl ∧ (i : Int) = ((W.length : Nat) : Int) then _ else σ.2.2 kl (i : Int)) = _
      rw [if_neg (by omega)]
      exact key.1
    · show (if ka = kl ∧ _ then _ else σ.2.2 ka (3 * (i : Int) + (j : Int))) = _
      rw [if_neg (fun z => hne z.1.symm)]
      exact key.2 j hj
/-- the reference's half-read table -/
def rdM (σ : am_St) (s : rd_S) : Prop := σ.1 0 14 = (s.1.length : Int) ∧ wdA σ 7 9 (s.1 ++ [s.2.2.1]) ∧ wdA σ 8 10 (s.2.1 ++ [s.2.2.2]) ∧ rd_ok s
theorem rdM.cur {σ : am_St} {s : rd_S} (h : rdM σ s) : σ.2.2 7 (s.1.length : Int) = (s.2.2.1.length : Int) ∧ σ.2.2 8 (s.1.length : Int) = (s.2.2.2.length : Int) := by
  obtain ⟨h1, h2, h3, hok⟩ := h
  have k1 := (h2 s.1.length (by simp)).1
  have k2 := (h3 s.2.1.length (by simp)).1
  rw [show (s.1 ++ [s.2.2.1]).getD s.1.length [] = s.2.2.1 by simp [List.getD]] at k1
  rw [show (s.2.1 ++ [s.2.2.2]).getD s.2.1.length [] = s.2.2.2 by simp [List.getD]] at k2
  rw [← hok.1] at k2
  exact ⟨k1, k2⟩
/-- two words are equal: after i characters -/
def eb (a b : List Int) (i : Nat) : Int := if a.length = b.length ∧ a.take i = b.take i then 1 else 0
theorem eb_step {a b : List Int} {i : Nat} (hi : i < b.length) : eb a b (i + 1) = if eb a b i = 0 then 0 else if ln_at a (i : Int) = ln_at b (i : Int) then 1 else 0 := by
  unfold eb
  by_cases hc : a.length = b.length ∧ a.take i = b.take i
  · have hia : i < a.length := by omega
    have e0 : ¬ (1 : Int) = 0 := by decide
    rw [if_pos hc, if_neg e0]
    have key : a.take (i + 1) = b.take (i + 1) ↔ ln_at a (i : Int) = ln_at b (i : Int) := by
      rw [take_snoc hia, take_snoc hi, hc.2]
      constructor
      · intro z
        have := List.append_cancel_left z
        simpa using this
      · intro z; rw [z]
    by_cases h2 : ln_at a (i : Int) = ln_at b (i : Int)
    · rw [if_pos ⟨hc.1, key.mpr h2⟩, if_pos h2]
    · rw [if_neg (fun z => h2 (key.mp z.2)), if_neg h2]
  · rw [if_neg hc, if_pos (rfl : (0 : Int) = 0), if_neg]
    rintro ⟨e1, e2⟩
    apply hc
    refine ⟨e1, ?_⟩
    have := congrArg (List.take i) e2
    rw [List.take_take, List.take_take, Nat.min_eq_left (by omega)] at this
    exact this
theorem eb_01 (a b : List Int) (i : Nat) : eb a b i = 0 ∨ eb a b i = 1 := by unfold eb; split <;> simp
theorem eb_end {a b : List Int} {i : Nat} (h : b.length ≤ i) : eb a b i = if a = b then 1 else 0 := by
  unfold eb
  by_cases hc : a = b
  · rw [if_pos ⟨by rw [hc], by rw [hc]⟩, if_pos hc]
  · rw [if_neg, if_neg hc]
    rintro ⟨e1, e2⟩
    rw [List.take_of_length_le (by omega), List.take_of_length_le h] at e2
    exact hc e2
theorem ev_X11_isTwice {σ : am_St} {s : rd_S} (h : rdM σ s) : am_Ev SH mX11_isTwice 0 [.ref 0] σ (am_rI (fun x σ2 => x = (if s.2.2.1 ∈ s.1 then 1 else 0) ∧ σ2 = σ)) := by
  have hc := h.cur
  obtain ⟨h1, h2, h3, hok⟩ := h
  have hn := hok.2.1
  have hll := hok.2.2.2.2.2.1
  generalize hT : (if s.2.2.1 ∈ s.1 then (1 : Int) else 0) = T
  have loop : ∀ (m : Nat) (k : Nat) (o3 o4 : Option Value) (x : Int), am_nl o3 = true → am_nl o4 = true → x = (if s.2.2.1 ∈ s.1.take k then (1 : Int) else 0) → s.1.length - k < m → k ≤ s.1.length → am_Go SH mX11_isTwice 0 (am_rI (fun x σ2 => x = T ∧ σ2 = σ)) 4 [some (.ref 0), some (.int (iZ x)), some (.int (iZ (k : Int))), o3, o4] [] σ := by
    intro m
    induction m with
    | zero => intro k o3 o4 x _ _ _ hm; exact absurd hm (by omega)
    | succ m ih =>
      intro k o3 o4 x n3 n4 hx hm hk
      have hx01 : x = 0 ∨ x = 1 := by rw [hx]; split <;> simp
      have inner : k < s.1.length → ∀ (m2 : Nat) (i : Nat) (y : Int), y = eb (s.1.getD k []) s.2.2.1 i → s.2.2.1.length - i < m2 → i ≤ s.2.2.1.length → am_Go SH mX11_isTwice 0 (am_rI (fun x σ2 => x = T ∧ σ2 = σ)) 39 [some (.ref 0), some (.int (iZ x)), some (.int (iZ (k : Int))), some (.int (iZ y)), some (.int (iZ (i : Int)))] [] σ := by
        intro hlt m2
        have wk := h2 k (by rw [List.length_append]; omega)
        rw [show (s.1 ++ [s.2.2.1]).getD k [] = s.1.getD k [] by simp [List.getD, List.getElem?_append_left hlt]] at wk
        have wn := (h2 s.1.length (by simp)).2
        rw [show (s.1 ++ [s.2.2.1]).getD s.1.length [] = s.2.2.1 by simp [List.getD]] at wn
        have hgk : s.1.getD k [] = s.1[k] := by simp [List.getD, hlt]
        have rk : ∀ x ∈ s.1.getD k [], inR x := by rw [hgk]; exact okl_R (hok.2.2.1 _ (List.getElem_mem hlt)).1
        have rn : ∀ x ∈ s.2.2.1, inR x := okl_R hok.2.2.2.2.1
        induction m2 with
        | zero => intro i y _ hm2; exact absurd hm2 (by omega)
        | succ m2 ih2 =>
          intro i y hy hm2 hi
          have hy01 : y = 0 ∨ y = 1 := by rw [hy]; exact eb_01 _ _ _
          have hylen : y ≠ 0 → (s.1.getD k []).length = s.2.2.1.length := fun z => by
            by_cases q : (s.1.getD k []).length = s.2.2.1.length ∧ (s.1.getD k []).take i = s.2.2.1.take i
            · exact q.1
            · rw [hy] at z; unfold eb at z; rw [if_neg q] at z; exact absurd rfl z
          refine go_iload dX11_isTwice_39 rfl ?_
          refine go_aload_n dX11_isTwice_41 rfl ?_
          refine go_getr fl_X11_28 dX11_isTwice_42 sh_0 rfl ?_
          refine go_aload_n dX11_isTwice_45 rfl ?_
          refine go_geti fl_X11_79 dX11_isTwice_46 sh_0 rfl ?_
          first | (rw [h1]) | (rw [hc.1]) | skip
          refine go_iaload dX11_isTwice_49 (by first | assumption | rfl) (by first | assumption | exact Nat.le_of_ble_eq_true rfl) (by omega) (by omega) ?_
          first | (rw [h1]) | (rw [hc.1]) | skip
          refine go_icmp_ge (tgt := 97) dX11_isTwice_50 (by decide) (by unfold inR; omega) (by unfold inR; omega) (fun b50 => ?_) (fun b50 => ?_)
          · skip
            refine go_iload_n dX11_isTwice_97 rfl ?_
            refine go_if_ne (tgt := 105) dX11_isTwice_98 (by decide) (by unfold inR; omega) (fun b98 => ?_) (fun b98 => ?_)
            · skip
              refine go_iconst dX11_isTwice_105 ?_
              refine go_goto (tgt := 110) dX11_isTwice_106 (by decide) ?_
              refine go_ist1 dX11_isTwice_110 (Nat.le_of_ble_eq_true rfl) rfl ?_
              refine go_inc2 dX11_isTwice_111 (Nat.le_of_ble_eq_true rfl) rfl ?_
              refine go_goto (tgt := 4) dX11_isTwice_114 (by decide) ?_
              refine ih (k + 1) _ _ _ rfl rfl ?_ (by omega) (by omega)
              rw [eb_end (by omega)] at hy
              have et : s.1.take (k + 1) = s.1.take k ++ [s.1.getD k []] := by rw [hgk]; exact List.take_succ_eq_append_getElem hlt
              have em : s.2.2.1 ∈ s.1.take (k + 1) ↔ (s.2.2.1 ∈ s.1.take k ∨ s.1.getD k [] = s.2.2.1) := by rw [et, List.mem_append, List.mem_singleton]; exact or_congr Iff.rfl eq_comm
              by_cases q1 : s.2.2.1 ∈ s.1.take k
              · rw [if_pos q1] at hx; rw [if_pos (em.mpr (Or.inl q1))] <;> first | rfl | (exfalso; omega)
              · rw [if_neg q1] at hx
                by_cases q2 : s.1.getD k [] = s.2.2.1
                · rw [if_pos q2] at hy; rw [if_pos (em.mpr (Or.inr q2))] <;> first | rfl | (exfalso; omega)
                · rw [if_neg q2] at hy; rw [if_neg (fun z => (em.mp z).elim q1 q2)] <;> first | rfl | (exfalso; omega)
            · skip
              refine go_iload_n dX11_isTwice_101 rfl ?_
              refine go_if_eq (tgt := 109) dX11_isTwice_102 (by decide) (by unfold inR; omega) (fun b102 => ?_) (fun b102 => ?_)
              · skip
                refine go_iconst dX11_isTwice_109 ?_
                refine go_ist1 dX11_isTwice_110 (Nat.le_of_ble_eq_true rfl) rfl ?_
                refine go_inc2 dX11_isTwice_111 (Nat.le_of_ble_eq_true rfl) rfl ?_
                refine go_goto (tgt := 4) dX11_isTwice_114 (by decide) ?_
                refine ih (k + 1) _ _ _ rfl rfl ?_ (by omega) (by omega)
                rw [eb_end (by omega)] at hy
                have et : s.1.take (k + 1) = s.1.take k ++ [s.1.getD k []] := by rw [hgk]; exact List.take_succ_eq_append_getElem hlt
                have em : s.2.2.1 ∈ s.1.take (k + 1) ↔ (s.2.2.1 ∈ s.1.take k ∨ s.1.getD k [] = s.2.2.1) := by rw [et, List.mem_append, List.mem_singleton]; exact or_congr Iff.rfl eq_comm
                by_cases q1 : s.2.2.1 ∈ s.1.take k
                · rw [if_pos q1] at hx; rw [if_pos (em.mpr (Or.inl q1))] <;> first | rfl | (exfalso; omega)
                · rw [if_neg q1] at hx
                  by_cases q2 : s.1.getD k [] = s.2.2.1
                  · rw [if_pos q2] at hy; rw [if_pos (em.mpr (Or.inr q2))] <;> first | rfl | (exfalso; omega)
                  · rw [if_neg q2] at hy; rw [if_neg (fun z => (em.mp z).elim q1 q2)] <;> first | rfl | (exfalso; omega)
              · skip
                refine go_iconst dX11_isTwice_105 ?_
                refine go_goto (tgt := 110) dX11_isTwice_106 (by decide) ?_
                refine go_ist1 dX11_isTwice_110 (Nat.le_of_ble_eq_true rfl) rfl ?_
                refine go_inc2 dX11_isTwice_111 (Nat.le_of_ble_eq_true rfl) rfl ?_
                refine go_goto (tgt := 4) dX11_isTwice_114 (by decide) ?_
                refine ih (k + 1) _ _ _ rfl rfl ?_ (by omega) (by omega)
                rw [eb_end (by omega)] at hy
                have et : s.1.take (k + 1) = s.1.take k ++ [s.1.getD k []] := by rw [hgk]; exact List.take_succ_eq_append_getElem hlt
                have em : s.2.2.1 ∈ s.1.take (k + 1) ↔ (s.2.2.1 ∈ s.1.take k ∨ s.1.getD k [] = s.2.2.1) := by rw [et, List.mem_append, List.mem_singleton]; exact or_congr Iff.rfl eq_comm
                by_cases q1 : s.2.2.1 ∈ s.1.take k
                · rw [if_pos q1] at hx; rw [if_pos (em.mpr (Or.inl q1))] <;> first | rfl | (exfalso; omega)
                · rw [if_neg q1] at hx
                  by_cases q2 : s.1.getD k [] = s.2.2.1
                  · rw [if_pos q2] at hy; rw [if_pos (em.mpr (Or.inr q2))] <;> first | rfl | (exfalso; omega)
                  · rw [if_neg q2] at hy; rw [if_neg (fun z => (em.mp z).elim q1 q2)] <;> first | rfl | (exfalso; omega)
          · skip
            refine go_iload_n dX11_isTwice_53 rfl ?_
            refine go_if_eq (tgt := 89) dX11_isTwice_54 (by decide) (by unfold inR; omega) (fun b54 => ?_) (fun b54 => ?_)
            · skip
              refine go_iconst dX11_isTwice_89 ?_
              refine go_ist3 dX11_isTwice_90 (Nat.le_of_ble_eq_true rfl) rfl ?_
              refine go_inc4 dX11_isTwice_91 (Nat.le_of_ble_eq_true rfl) rfl ?_
              refine go_goto (tgt := 39) dX11_isTwice_94 (by decide) ?_
              refine ih2 (i + 1) _ ?_ (by omega) (by omega)
              rw [eb_step (by omega), ← hy]
              first | rw [if_pos b54] | rw [if_neg b54, if_neg b82] | rw [if_neg b54, if_pos b82]
            · skip
              refine go_aload_n dX11_isTwice_57 rfl ?_
              refine go_getr fl_X11_34 dX11_isTwice_58 sh_0 rfl ?_
              refine go_iconst dX11_isTwice_61 ?_
              refine go_iload_n dX11_isTwice_62 rfl ?_
              refine go_imul dX11_isTwice_63 ?_
              refine go_iload dX11_isTwice_64 rfl ?_
              refine go_iadd dX11_isTwice_66 ?_
              refine go_iaload dX11_isTwice_67 (by first | assumption | rfl) (by first | assumption | exact Nat.le_of_ble_eq_true rfl) (by omega) (by omega) ?_
              first | (rw [h1]) | (rw [hc.1]) | skip
              rw [wk.2 i (by have := hylen b54; omega)]
              refine go_aload_n dX11_isTwice_68 rfl ?_
              refine go_getr fl_X11_34 dX11_isTwice_69 sh_0 rfl ?_
              refine go_iconst dX11_isTwice_72 ?_
              refine go_aload_n dX11_isTwice_73 rfl ?_
              refine go_geti fl_X11_79 dX11_isTwice_74 sh_0 rfl ?_
              first | (rw [h1]) | (rw [hc.1]) | skip
              refine go_imul dX11_isTwice_77 ?_
              refine go_iload dX11_isTwice_78 rfl ?_
              refine go_iadd dX11_isTwice_80 ?_
              refine go_iaload dX11_isTwice_81 (by first | assumption | rfl) (by first | assumption | exact Nat.le_of_ble_eq_true rfl) (by omega) (by omega) ?_
              first | (rw [h1]) | (rw [hc.1]) | skip
              rw [wn i (by omega)]
              refine go_icmp_ne (tgt := 89) dX11_isTwice_82 (by decide) (ln_at_R rk) (ln_at_R rn) (fun b82 => ?_) (fun b82 => ?_)
              · skip
                refine go_iconst dX11_isTwice_89 ?_
                refine go_ist3 dX11_isTwice_90 (Nat.le_of_ble_eq_true rfl) rfl ?_
                refine go_inc4 dX11_isTwice_91 (Nat.le_of_ble_eq_true rfl) rfl ?_
                refine go_goto (tgt := 39) dX11_isTwice_94 (by decide) ?_
                refine ih2 (i + 1) _ ?_ (by omega) (by omega)
                rw [eb_step (by omega), ← hy]
                first | rw [if_pos b54] | rw [if_neg b54, if_neg b82] | rw [if_neg b54, if_pos b82]
              · skip
                refine go_iconst dX11_isTwice_85 ?_
                refine go_goto (tgt := 90) dX11_isTwice_86 (by decide) ?_
                refine go_ist3 dX11_isTwice_90 (Nat.le_of_ble_eq_true rfl) rfl ?_
                refine go_inc4 dX11_isTwice_91 (Nat.le_of_ble_eq_true rfl) rfl ?_
                refine go_goto (tgt := 39) dX11_isTwice_94 (by decide) ?_
                refine ih2 (i + 1) _ ?_ (by omega) (by omega)
                rw [eb_step (by omega), ← hy]
                first | rw [if_pos b54] | rw [if_neg b54, if_neg b82] | rw [if_neg b54, if_pos b82]
      have wk0 : k < s.1.length → σ.2.2 7 (k : Int) = ((s.1.getD k []).length : Int) := fun hlt => by
        have wk := (h2 k (by rw [List.length_append]; omega)).1
        rw [show (s.1 ++ [s.2.2.1]).getD k [] = s.1.getD k [] by simp [List.getD, List.getElem?_append_left hlt]] at wk
        exact wk
      have l3 : k < s.1.length → (s.1.getD k []).length ≤ 3 := fun hlt => (okr_get hok.2.2.1 k).2
      refine go_iload_n dX11_isTwice_4 rfl ?_
      refine go_aload_n dX11_isTwice_5 rfl ?_
      refine go_geti fl_X11_79 dX11_isTwice_6 sh_0 rfl ?_
      first | (rw [h1]) | (rw [hc.1]) | skip
      refine go_icmp_ge (tgt := 117) dX11_isTwice_9 (by decide) (by unfold inR; omega) (by unfold inR; omega) (fun b9 => ?_) (fun b9 => ?_)
      · skip
        refine go_iload_n dX11_isTwice_117 rfl ?_
        refine go_retZ dX11_isTwice_118 rfl hx01 ?_
        refine ⟨?_, rfl⟩
        rw [show k = s.1.length by omega, List.take_length] at hx
        rw [hx, hT]
      · skip
        have wk1 := wk0 (by omega)
        have l31 := l3 (by omega)
        refine go_aload_n dX11_isTwice_12 rfl ?_
        refine go_getr fl_X11_28 dX11_isTwice_13 sh_0 rfl ?_
        refine go_iload_n dX11_isTwice_16 rfl ?_
        refine go_iaload dX11_isTwice_17 (by first | assumption | rfl) (by first | assumption | exact Nat.le_of_ble_eq_true rfl) (by omega) (by omega) ?_
        first | (rw [h1]) | (rw [hc.1]) | skip
        rw [wk1]
        refine go_aload_n dX11_isTwice_18 rfl ?_
        refine go_getr fl_X11_28 dX11_isTwice_19 sh_0 rfl ?_
        refine go_aload_n dX11_isTwice_22 rfl ?_
        refine go_geti fl_X11_79 dX11_isTwice_23 sh_0 rfl ?_
        first | (rw [h1]) | (rw [hc.1]) | skip
        refine go_iaload dX11_isTwice_26 (by first | assumption | rfl) (by first | assumption | exact Nat.le_of_ble_eq_true rfl) (by omega) (by omega) ?_
        first | (rw [h1]) | (rw [hc.1]) | skip
        refine go_icmp_ne (tgt := 34) dX11_isTwice_27 (by decide) (by unfold inR; omega) (by unfold inR; omega) (fun b27 => ?_) (fun b27 => ?_)
        · skip
          refine go_iconst dX11_isTwice_34 ?_
          refine go_ist3 dX11_isTwice_35 (Nat.le_of_ble_eq_true rfl) rfl ?_
          refine go_iconst dX11_isTwice_36 ?_
          refine go_ist4 dX11_isTwice_37 (Nat.le_of_ble_eq_true rfl) rfl ?_
          refine inner (by omega) (s.2.2.1.length + 1) 0 _ ?_ (by omega) (by omega)
          unfold eb
          first | rw [if_pos ⟨by omega, rfl⟩] | rw [if_neg (fun z => b27 (by omega))]
        · skip
          refine go_iconst dX11_isTwice_30 ?_
          refine go_goto (tgt := 35) dX11_isTwice_31 (by decide) ?_
          refine go_ist3 dX11_isTwice_35 (Nat.le_of_ble_eq_true rfl) rfl ?_
          refine go_iconst dX11_isTwice_36 ?_
          refine go_ist4 dX11_isTwice_37 (Nat.le_of_ble_eq_true rfl) rfl ?_
          refine inner (by omega) (s.2.2.1.length + 1) 0 _ ?_ (by omega) (by omega)
          unfold eb
          first | rw [if_pos ⟨by omega, rfl⟩] | rw [if_neg (fun z => b27 (by omega))]
  refine am_ev (by decide) [some (.ref 0), none, none, none, none] rfl (Nat.le_of_ble_eq_true rfl) ?_
  refine go_iconst dX11_isTwice_0 ?_
  refine go_ist1 dX11_isTwice_1 (Nat.le_of_ble_eq_true rfl) rfl ?_
  refine go_iconst dX11_isTwice_2 ?_
  refine go_ist2 dX11_isTwice_3 (Nat.le_of_ble_eq_true rfl) rfl ?_
  exact loop (s.1.length + 1) 0 none none 0 rfl rfl (by simp) (by omega) (by omega)

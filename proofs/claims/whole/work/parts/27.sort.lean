/-! ===== Line.sort ===== -/
def ins (zs : List Int) (p s : Nat) (item : Int) : List Int := zs.take p ++ (item :: ((zs.take s).drop p ++ zs.drop (s + 1)))
theorem ins_get (zs : List Int) (p s : Nat) (item : Int) (hps : p ≤ s) (hs : s < zs.length) (j : Nat) : (ins zs p s item)[j]? = if j < p then zs[j]? else if j = p then some item else if j ≤ s then zs[j - 1]? else zs[j]? := by
  unfold ins
  have lA : (zs.take p).length = p := by rw [List.length_take]; omega
  have lB : ((zs.take s).drop p).length = s - p := by rw [List.length_drop, List.length_take]; omega
  by_cases h1 : j < p
  · rw [if_pos h1, List.getElem?_append_left (by omega), List.getElem?_take, if_pos h1]
  · rw [if_neg h1, List.getElem?_append_right (by omega), lA]
    by_cases h2 : j = p
    · rw [if_pos h2, h2, Nat.sub_self]; rfl
    · rw [if_neg h2]
      obtain ⟨q, hq⟩ : ∃ q, j - p = q + 1 := ⟨j - p - 1, by omega⟩
      rw [hq, List.getElem?_cons_succ]
      by_cases h3 : j ≤ s
      · rw [if_pos h3, List.getElem?_append_left (by omega), List.getElem?_drop, List.getElem?_take, if_pos (by omega)]
        congr 1; omega
      · rw [if_neg h3, List.getElem?_append_right (by omega), lB, List.getElem?_drop]
        congr 1; omega
theorem ins_split (zs : List Int) (p s : Nat) (hps : p ≤ s) (hs : s < zs.length) : zs = zs.take p ++ ((zs.take s).drop p ++ zs[s] :: zs.drop (s + 1)) := by
  have e1 : zs = zs.take s ++ zs.drop s := (List.take_append_drop s zs).symm
  have e2 : zs.drop s = zs[s] :: zs.drop (s + 1) := List.drop_eq_getElem_cons hs
  have e3 : zs.take s = zs.take p ++ (zs.take s).drop p := by
    have := (List.take_append_drop p (zs.take s)).symm
    rwa [List.take_take, Nat.min_eq_left hps] at this
  rw [e2] at e1
  rw [← List.append_assoc, ← e3]
  exact e1
theorem ins_perm (zs : List Int) (p s : Nat) (hps : p ≤ s) (hs : s < zs.length) : (ins zs p s zs[s]).Perm zs := by
  have e := ins_split zs p s hps hs
  have : (ins zs p s zs[s]).Perm (zs.take p ++ ((zs.take s).drop p ++ zs[s] :: zs.drop (s + 1))) := List.Perm.append_left _ List.perm_middle.symm
  rwa [← e] at this
theorem ins_sorted (zs : List Int) (p s : Nat) (hps : p ≤ s) (hs : s < zs.length) (hz : (zs.take s).Pairwise (· ≤ ·)) (h1 : ∀ j x, p ≤ j → j < s → zs[j]? = some x → zs[s] < x) (h2 : p = 0 ∨ ∃ x, zs[p - 1]? = some x ∧ x ≤ zs[s]) : ((ins zs p s zs[s]).take (s + 1)).Pairwise (· ≤ ·) := by
  have lA : (zs.take p).length = p := by rw [List.length_take]; omega
  have lB : ((zs.take s).drop p).length = s - p := by rw [List.length_drop, List.length_take]; omega
  have et : (ins zs p s zs[s]).take (s + 1) = zs.take p ++ (zs[s] :: (zs.take s).drop p) := by
    unfold ins
    rw [List.take_append, List.take_of_length_le (show (zs.take p).length ≤ s + 1 by omega), lA, show s + 1 - p = (s - p) + 1 by omega, List.take_succ_cons, List.take_append, List.take_of_length_le (show ((zs.take s).drop p).length ≤ s - p by omega), lB, Nat.sub_self, List.take_zero, List.append_nil]
  have e3 : zs.take s = zs.take p ++ (zs.take s).drop p := by
    have := (List.take_append_drop p (zs.take s)).symm
    rwa [List.take_take, Nat.min_eq_left hps] at this
  have hz2 := hz
  rw [e3, List.pairwise_append] at hz2
  obtain ⟨z1, z2, z3⟩ := hz2
  have hB : ∀ b ∈ (zs.take s).drop p, zs[s] < b := by
    intro b hb
    obtain ⟨i, hi⟩ := List.getElem?_of_mem hb
    have hlt := (List.getElem?_eq_some_iff.mp hi).1
    rw [List.getElem?_drop, List.getElem?_take, if_pos (by omega)] at hi
    exact h1 (p + i) b (by omega) (by omega) hi
  have hA : ∀ a ∈ zs.take p, a ≤ zs[s] := by
    intro a ha
    rcases h2 with h2 | ⟨x, hx, hxs⟩
    · subst h2; simp at ha
    · obtain ⟨i, hi⟩ := List.getElem?_of_mem ha
      have hlt := (List.getElem?_eq_some_iff.mp hi).1
      rw [List.getElem?_take, if_pos (by omega)] at hi
      by_cases hip : i = p - 1
      · rw [hip, hx] at hi; have := Option.some.inj hi; omega
      · have q1 : i < (zs.take s).length := by rw [List.length_take]; omega
        have q2 : p - 1 < (zs.take s).length := by rw [List.length_take]; omega
        have := List.pairwise_iff_getElem.mp hz i (p - 1) q1 q2 (by omega)
        rw [List.getElem_take, List.getElem_take] at this
        have e5 := (List.getElem?_eq_some_iff.mp hi).2
        have e6 := (List.getElem?_eq_some_iff.mp hx).2
        omega
  rw [et, List.pairwise_append]
  refine ⟨z1, ?_, fun a ha b hb => ?_⟩
  · rw [List.pairwise_cons]
    exact ⟨fun b hb => Int.le_of_lt (hB b hb), z2⟩
  · rcases List.mem_cons.mp hb with hb | hb
    · rw [hb]; exact hA a ha
    · exact z3 a ha b hb
theorem ev_X1_sort {σ : am_St} {k n : Nat} {xs : List Int} (h : hold σ k n xs) (hn : n < 1000000) : am_Ev SH mX1_sort 0 [.ref k] σ (am_rV (fun σ2 => ∃ ys, hold σ2 k n ys ∧ ys.Perm xs ∧ ys.Pairwise (· ≤ ·) ∧ am_off [k, k + 1] σ σ2)) := by
  have h1 := h.1
  have h2 := h.2.1
  have h3 := h.2.2.1
  have outer : ∀ (m : Nat) (s : Nat) (zs : List Int) (σ1 : am_St) (w2 w3 : Option Value), zs.length + 1 - s < m → 1 ≤ s → s ≤ zs.length + 1 → hold σ1 k n zs → zs.Perm xs → (zs.take s).Pairwise (· ≤ ·) → am_off [k, k + 1] σ σ1 → am_Go SH mX1_sort 0 (am_rV (fun σ2 => ∃ ys, hold σ2 k n ys ∧ ys.Perm xs ∧ ys.Pairwise (· ≤ ·) ∧ am_off [k, k + 1] σ σ2)) 2 [some (.ref k), some (.int (iZ s)), w2, w3] [] σ1 := by
    intro m
    induction m with
    | zero => intro s zs σ1 w2 w3 hm; exact absurd hm (by omega)
    | succ m ih =>
      intro s zs σ1 w2 w3 hm hs1 hs2 hh hperm hsort ho
      obtain ⟨-, -, -, h4, h5, h6, h7⟩ := hh
      by_cases hend : s < zs.length
      · have inner : ∀ (m2 : Nat) (p : Nat) (σ2 : am_St), p < m2 → p ≤ s → σ2.1 k 1 = zs.length → am_off [k, k + 1] σ σ2 → (∀ j : Nat, j < zs.length → zs[j]? = some (σ2.2.2 (k + 1) j) ∨ (p < j ∧ j ≤ s)) → (∀ j : Nat, p < j → j ≤ s → zs[j - 1]? = some (σ2.2.2 (k + 1) j)) → (∀ j x, p ≤ j → j < s → zs[j]? = some x → zs[s] < x) → am_Go SH mX1_sort 0 (am_rV (fun σ2 => ∃ ys, hold σ2 k n ys ∧ ys.Perm xs ∧ ys.Pairwise (· ≤ ·) ∧ am_off [k, k + 1] σ σ2)) 19 [some (.ref k), some (.int (iZ s)), some (.int (iZ zs[s])), some (.int (iZ p))] [] σ2 := by
          intro m2
          induction m2 with
          | zero => intro p σ2 hm2; exact absurd hm2 (by omega)
          | succ m2 ih2 =>
            intro p σ2 hm2 hps hsz ho2 hc1 hc2 hlt
            have rs : inR zs[s] := h7 _ (List.getElem_mem hend)
            have fin : (p = 0 ∨ ∃ x, zs[p - 1]? = some x ∧ x ≤ zs[s]) → am_Go SH mX1_sort 0 (am_rV (fun σ2 => ∃ ys, hold σ2 k n ys ∧ ys.Perm xs ∧ ys.Pairwise (· ≤ ·) ∧ am_off [k, k + 1] σ σ2)) 55 [some (.ref k), some (.int (iZ s)), some (.int (iZ zs[s])), some (.int (iZ p))] [] σ2 := by
              intro hx
              refine go_aload_n dX1_sort_55 rfl ?_
              refine go_getr fl_X1_15 dX1_sort_56 (by assumption) rfl ?_
              refine go_iload_n dX1_sort_59 rfl ?_
              refine go_iload_n dX1_sort_60 rfl ?_
              refine go_iastore dX1_sort_61 (by first | assumption | rfl) (by first | assumption | exact Nat.le_of_ble_eq_true rfl) (by omega) (by omega) ?_
              refine go_inc1 dX1_sort_62 (Nat.le_of_ble_eq_true rfl) rfl ?_
              refine go_goto (tgt := 2) dX1_sort_65 (by decide) ?_
              rw [show (s : Int) + 1 = ((s + 1 : Nat) : Int) by omega]
              have hper := ins_perm zs p s hps hend
              have hlen : (ins zs p s zs[s]).length = zs.length := hper.length_eq
              refine ih (s + 1) (ins zs p s zs[s]) _ _ _ (by omega) (by omega) (by omega) ⟨h1, h2, h3, by rw [hlen]; exact hsz, by omega, fun j x hj => ?_, fun x hx => h7 x (hper.mem_iff.mp hx)⟩ (hper.trans hperm) (ins_sorted zs p s hps hend hsort hlt hx) (ho2.tr (am_off_sa (by simp)))
              rw [ins_get zs p s _ hps hend] at hj
              simp only [am_sa]
              by_cases hjp : j = p
              · rw [if_pos ⟨trivial, by omega⟩]; rw [if_neg (by omega), if_pos hjp] at hj; exact Option.some.inj hj
              · rw [if_neg (by simp; omega)]
                by_cases hj1 : j < p
                · rw [if_pos hj1] at hj
                  rcases hc1 j (by omega) with q | q
                  · rw [q] at hj; exact Option.some.inj hj
                  · omega
                · rw [if_neg hj1, if_neg hjp] at hj
                  by_cases hj2 : j ≤ s
                  · rw [if_pos hj2, hc2 j (by omega) hj2] at hj; exact Option.some.inj hj
                  · rw [if_neg hj2] at hj
                    rcases hc1 j (List.getElem?_eq_some_iff.mp hj).1 with q | q
                    · rw [q] at hj; exact Option.some.inj hj
                    · omega
            by_cases hp0 : p = 0
            · skip
              refine go_iload_n dX1_sort_19 rfl ?_
              refine go_if_le (tgt := 55) dX1_sort_20 (by decide) (by unfold inR; omega) (fun b20 => ?_) (fun b20 => ?_)
              · skip
                exact fin (Or.inl hp0)
              · skip
                exact absurd b20 (by omega)
            · have hcp : zs[p - 1]? = some (σ2.2.2 (k + 1) ((p : Int) - 1)) := by
                rcases hc1 (p - 1) (by omega) with q | q
                · rw [q, show ((p - 1 : Nat) : Int) = (p : Int) - 1 by omega]
                · omega
              have rp : inR (σ2.2.2 (k + 1) ((p : Int) - 1)) := h7 _ (List.mem_of_getElem? hcp)
              refine go_iload_n dX1_sort_19 rfl ?_
              refine go_if_le (tgt := 55) dX1_sort_20 (by decide) (by unfold inR; omega) (fun b20 => ?_) (fun b20 => ?_)
              · skip
                exact absurd b20 (by omega)
              · skip
                refine go_aload_n dX1_sort_23 rfl ?_
                refine go_getr fl_X1_15 dX1_sort_24 (by assumption) rfl ?_
                refine go_iload_n dX1_sort_27 rfl ?_
                refine go_iconst dX1_sort_28 ?_
                refine go_isub dX1_sort_29 ?_
                refine go_iaload dX1_sort_30 (by first | assumption | rfl) (by first | assumption | exact Nat.le_of_ble_eq_true rfl) (by omega) (by omega) ?_
                refine go_iload_n dX1_sort_31 rfl ?_
                refine go_icmp_le (tgt := 55) dX1_sort_32 (by decide) rp rs (fun b32 => ?_) (fun b32 => ?_)
                · skip
                  exact fin (Or.inr ⟨_, hcp, by omega⟩)
                · skip
                  refine go_aload_n dX1_sort_35 rfl ?_
                  refine go_getr fl_X1_15 dX1_sort_36 (by assumption) rfl ?_
                  refine go_iload_n dX1_sort_39 rfl ?_
                  refine go_aload_n dX1_sort_40 rfl ?_
                  refine go_getr fl_X1_15 dX1_sort_41 (by assumption) rfl ?_
                  refine go_iload_n dX1_sort_44 rfl ?_
                  refine go_iconst dX1_sort_45 ?_
                  refine go_isub dX1_sort_46 ?_
                  refine go_iaload dX1_sort_47 (by first | assumption | rfl) (by first | assumption | exact Nat.le_of_ble_eq_true rfl) (by omega) (by omega) ?_
                  refine go_iastore dX1_sort_48 (by first | assumption | rfl) (by first | assumption | exact Nat.le_of_ble_eq_true rfl) (by omega) (by omega) ?_
                  refine go_inc3 dX1_sort_49 (Nat.le_of_ble_eq_true rfl) rfl ?_
                  refine go_goto (tgt := 19) dX1_sort_52 (by decide) ?_
                  rw [show (p : Int) + -1 = ((p - 1 : Nat) : Int) by omega]
                  refine ih2 (p - 1) _ (by omega) (by omega) hsz (ho2.tr (am_off_sa (by simp))) (fun j hj => ?_) (fun j hj1 hj2 => ?_) (fun j x hj1 hj2 hx => ?_)
                  · by_cases hjp : j = p
                    · exact Or.inr (by omega)
                    · rcases hc1 j hj with q | q
                      · refine Or.inl ?_; simp only [am_sa]; rw [if_neg (by simp; omega)]; exact q
                      · exact Or.inr (by omega)
                  · simp only [am_sa]
                    by_cases hjp : j = p
                    · rw [if_pos ⟨trivial, by omega⟩, hjp]; exact hcp
                    · rw [if_neg (by simp; omega)]; exact hc2 j (by omega) hj2
                  · by_cases hjp : j = p - 1
                    · rw [hjp, hcp] at hx; have := Option.some.inj hx; omega
                    · exact hlt j x (by omega) hj2 hx
        refine go_iload_n dX1_sort_2 rfl ?_
        refine go_aload_n dX1_sort_3 rfl ?_
        refine go_geti fl_X1_21 dX1_sort_4 (by assumption) rfl ?_
        refine go_icmp_ge (tgt := 68) dX1_sort_7 (by decide) (by unfold inR; omega) (by unfold inR; omega) (fun b7 => ?_) (fun b7 => ?_)
        · skip
          exact absurd b7 (by omega)
        · skip
          refine go_aload_n dX1_sort_10 rfl ?_
          refine go_getr fl_X1_15 dX1_sort_11 (by assumption) rfl ?_
          refine go_iload_n dX1_sort_14 rfl ?_
          refine go_iaload dX1_sort_15 (by first | assumption | rfl) (by first | assumption | exact Nat.le_of_ble_eq_true rfl) (by omega) (by omega) ?_
          refine go_ist2 dX1_sort_16 (Nat.le_of_ble_eq_true rfl) rfl ?_
          refine go_iload_n dX1_sort_17 rfl ?_
          refine go_ist3 dX1_sort_18 (Nat.le_of_ble_eq_true rfl) rfl ?_
          have e0 : σ1.2.2 (k + 1) (s : Int) = zs[s] := h6 s _ (List.getElem?_eq_getElem hend)
          rw [e0]
          exact inner (s + 1) s σ1 (by omega) (Nat.le_refl _) h4 ho (fun j hj => Or.inl (by rw [h6 j _ (List.getElem?_eq_getElem hj)]; exact List.getElem?_eq_getElem hj)) (fun j hj1 hj2 => by omega) (fun j x hj1 hj2 => by omega)
      · skip
        refine go_iload_n dX1_sort_2 rfl ?_
        refine go_aload_n dX1_sort_3 rfl ?_
        refine go_geti fl_X1_21 dX1_sort_4 (by assumption) rfl ?_
        refine go_icmp_ge (tgt := 68) dX1_sort_7 (by decide) (by unfold inR; omega) (by unfold inR; omega) (fun b7 => ?_) (fun b7 => ?_)
        · skip
          refine go_retV dX1_sort_68 rfl ?_
          exact ⟨zs, ⟨h1, h2, h3, h4, h5, h6, h7⟩, hperm, by rwa [List.take_of_length_le (by omega)] at hsort, ho⟩
        · skip
          exact absurd b7 (by omega)
  refine am_ev (by decide) [some (.ref k), none, none, none] rfl (Nat.le_of_ble_eq_true rfl) ?_
  refine go_iconst dX1_sort_0 ?_
  refine go_ist1 dX1_sort_1 (Nat.le_of_ble_eq_true rfl) rfl ?_
  refine outer (xs.length + 1) 1 xs σ none none (by omega) (by omega) (by omega) h (List.Perm.refl _) ?_ am_off.rf
  cases xs with
  | nil => simp
  | cons a l => simp

/-! ===== the reference: tryLetter, tryBehind, isTriedLess, takesTried, goesOnBy ===== -/
def trM (σ : am_St) (xs : List Int) : Prop := σ.1 0 32 = (xs.length : Int) ∧ arA σ 19 xs ∧ okl xs
theorem trM.fr {σ σ' : am_St} {xs : List Int} {fs as : List Nat} (h : trM σ xs) (ho : fr fs as σ σ') (h1 : 32 ∉ fs) (h2 : 19 ∉ as) : trM σ' xs := ⟨by rw [ho.f 32 h1]; exact h.1, h.2.1.fr ho h2, h.2.2⟩
/-- the cells of the part k show the text, or none -/
def shO (σ : am_St) (k : Nat) : Option (List Int) → Prop
  | none => σ.2.2 17 (k : Int) = 1000
  | some x => σ.2.2 17 (k : Int) = (x.length : Int) ∧ ∀ j : Nat, j < x.length → σ.2.2 18 (200 * (k : Int) + (j : Int)) = ln_at x (j : Int)
theorem shO.fr {σ σ' : am_St} {k : Nat} {o : Option (List Int)} {fs as : List Nat} (h : shO σ k o) (ho : frr fs as σ σ') (h1 : 17 ∉ as) (h2 : 18 ∉ as) : shO σ' k o := by
  cases o with
  | none => show σ'.2.2 17 (k : Int) = 1000; rw [ho.2 17 h1]; exact h
  | some x => exact ⟨by rw [ho.2 17 h1]; exact h.1, fun j hj => by rw [ho.2 18 h2]; exact h.2 j hj⟩
def bhM (σ : am_St) (S : List (List Int)) (β : BT) : Prop := ∀ k : Nat, k < 40 → ∀ w, isL S w k → w ≠ [] → shO σ k (β w)
theorem bhM.fr {σ σ' : am_St} {S : List (List Int)} {β : BT} {fs as : List Nat} (h : bhM σ S β) (ho : fr fs as σ σ') (h1 : 17 ∉ as) (h2 : 18 ∉ as) : bhM σ' S β := fun k hk w hw hn => (h k hk w hw hn).fr ho h1 h2
theorem bhM_set {σ σ2 : am_St} {S : List (List Int)} {β : BT} {v xs : List Int} {k : Nat} (hb : bhM σ S β) (hlen : ∀ w y, β w = some y → y.length ≤ 200) (hv : isL S v k) (h1 : shO σ2 k (some xs)) (h2 : ∀ j : Nat, j ≠ k → σ2.2.2 17 (j : Int) = σ.2.2 17 (j : Int)) (h3 : ∀ j i : Nat, j ≠ k → i < 200 → σ2.2.2 18 (200 * (j : Int) + (i : Int)) = σ.2.2 18 (200 * (j : Int) + (i : Int))) : bhM σ2 S (bset β v xs) := by
  intro j hj w hw hwn
  by_cases e : w = v
  · subst e
    have : j = k := hw.uniq hv
    subst this
    rw [bset_eq]; exact h1
  · have hjk : j ≠ k := fun z => e (by subst z; rw [← hw.2.1, hv.2.1])
    rw [bset_ne e]
    have q := hb j hj w hw hwn
    cases hβ : β w with
    | none => rw [hβ] at q; show σ2.2.2 17 (j : Int) = 1000; rw [h2 j hjk]; exact q
    | some y =>
      rw [hβ] at q
      have := hlen w y hβ
      exact ⟨by rw [h2 j hjk]; exact q.1, fun i hi => by rw [h3 j i hjk (by omega)]; exact q.2 i hi⟩
theorem okl_at {x : List Int} {i : Nat} (h : okl x) (hi : i < x.length) : okc (ln_at x (i : Int)) := by
  rw [ln_at_get (List.getElem?_eq_getElem hi)]; exact h _ (List.getElem_mem hi)
theorem ev_X11_tryLetter {σ : am_St} {xs : List Int} {c : Int} (h : trM σ xs) (hc : okc c) (hl : xs.length < 200) : am_Ev SH mX11_tryLetter 0 [.ref 0, .int (iZ c)] σ (am_rV (fun σ2 => trM σ2 (xs ++ [c]) ∧ fr [32] [19] σ σ2)) := by
  obtain ⟨p1, p2, p3⟩ := h
  have e1 : (am_sa σ 19 (xs.length : Int) c).1 0 32 = (xs.length : Int) := p1
  refine am_ev (by decide) [some (.ref 0), some (.int (iZ (c)))] rfl (Nat.le_of_ble_eq_true rfl) ?_
  refine go_aload_n dX11_tryLetter_0 rfl ?_
  refine go_getr fl_X11_65 dX11_tryLetter_1 sh_0 rfl ?_
  refine go_aload_n dX11_tryLetter_4 rfl ?_
  refine go_geti fl_X11_248 dX11_tryLetter_5 sh_0 rfl ?_
  first | (rw [p1]) | (rw [e1]) | skip
  refine go_iload_n dX11_tryLetter_8 rfl ?_
  refine go_iastore dX11_tryLetter_9 (by first | assumption | rfl) (by first | assumption | exact Nat.le_of_ble_eq_true rfl) (by omega) (by omega) ?_
  refine go_aload_n dX11_tryLetter_10 rfl ?_
  refine go_dup dX11_tryLetter_11 rfl ?_
  refine go_geti fl_X11_248 dX11_tryLetter_12 sh_0 rfl ?_
  first | (rw [p1]) | (rw [e1]) | skip
  refine go_iconst dX11_tryLetter_15 ?_
  refine go_iadd dX11_tryLetter_16 ?_
  refine go_puti fl_X11_248 dX11_tryLetter_17 sh_0 rfl am_fit_int ?_
  refine go_retV dX11_tryLetter_20 rfl ?_
  exact ⟨⟨by simp [am_si], arA_snoc p2, okl_snoc p3 hc⟩, (fr_sa (by decide)).tr (fr_si (by decide))⟩
theorem ev_X11_tryBehind {σ : am_St} {xs x : List Int} {k : Nat} (h : trM σ xs) (hk : k < 40) (hb : shO σ k (some x)) (hx : okl x) (hl : xs.length + x.length ≤ 200) : am_Ev SH mX11_tryBehind 1 [.ref 0, .int (iZ (k : Int))] σ (am_rV (fun σ2 => trM σ2 (xs ++ x) ∧ fr [32] [19] σ σ2)) := by
  have loop : ∀ (m2 : Nat) (i : Nat) (σ1 : am_St), x.length - i < m2 → i ≤ x.length → trM σ1 (xs ++ x.take i) → fr [32] [19] σ σ1 → am_Go SH mX11_tryBehind 1 (am_rV (fun σ2 => trM σ2 (xs ++ x) ∧ fr [32] [19] σ σ2)) 2 [some (.ref 0), some (.int (iZ (k : Int))), some (.int (iZ (i : Int)))] [] σ1 := by
    intro m2
    induction m2 with
    | zero => intro i σ1 hm; exact absurd hm (by omega)
    | succ m2 ih =>
      intro i σ1 hm hi ht ho
      have hb1 := hb.fr ho (by decide) (by decide)
      have e17 := hb1.1
      by_cases hlt : i < x.length
      · have e18 := hb1.2 i hlt
        have hle : (xs ++ x.take i).length = xs.length + i := by rw [List.length_append, List.length_take, Nat.min_eq_left (by omega)]
        have tl := ev_X11_tryLetter ht (okl_at hx hlt) (by omega)
        rw [List.append_assoc, ← take_snoc hlt] at tl
        refine go_iload_n dX11_tryBehind_2 rfl ?_
        refine go_aload_n dX11_tryBehind_3 rfl ?_
        refine go_getr fl_X11_59 dX11_tryBehind_4 sh_0 rfl ?_
        refine go_iload_n dX11_tryBehind_7 rfl ?_
        refine go_iaload dX11_tryBehind_8 (by first | assumption | rfl) (by first | assumption | exact Nat.le_of_ble_eq_true rfl) (by omega) (by omega) ?_
        first | (rw [e17]) | (rw [e18]) | skip
        refine go_icmp_ge (tgt := 34) dX11_tryBehind_9 (by decide) (by unfold inR; omega) (by unfold inR; omega) (fun b9 => ?_) (fun b9 => ?_)
        · skip
          omega
        · skip
          refine go_aload_n dX11_tryBehind_12 rfl ?_
          refine go_aload_n dX11_tryBehind_13 rfl ?_
          refine go_getr fl_X11_62 dX11_tryBehind_14 sh_0 rfl ?_
          refine go_sipush dX11_tryBehind_17 rfl ?_
          refine go_iload_n dX11_tryBehind_20 rfl ?_
          refine go_imul dX11_tryBehind_21 ?_
          refine go_iload_n dX11_tryBehind_22 rfl ?_
          refine go_iadd dX11_tryBehind_23 ?_
          refine go_iaload dX11_tryBehind_24 (by first | assumption | rfl) (by first | assumption | exact Nat.le_of_ble_eq_true rfl) (by omega) (by omega) ?_
          first | (rw [e17]) | (rw [e18]) | skip
          refine go_cvV1 (M2 := mX11_tryLetter) dX11_tryBehind_25 ml_X11_251 mv_X11_tryLetter sh_0 rfl rfl (Nat.le_of_ble_eq_true rfl) (by decide) (tl) (fun σ4 hq => ?_)
          refine go_inc2 dX11_tryBehind_28 (Nat.le_of_ble_eq_true rfl) rfl ?_
          refine go_goto (tgt := 2) dX11_tryBehind_31 (by decide) ?_
          exact ih (i + 1) _ (by omega) (by omega) hq.1 (ho.tr hq.2)
      · have e : x.take i = x := List.take_of_length_le (by omega)
        rw [e] at ht
        refine go_iload_n dX11_tryBehind_2 rfl ?_
        refine go_aload_n dX11_tryBehind_3 rfl ?_
        refine go_getr fl_X11_59 dX11_tryBehind_4 sh_0 rfl ?_
        refine go_iload_n dX11_tryBehind_7 rfl ?_
        refine go_iaload dX11_tryBehind_8 (by first | assumption | rfl) (by first | assumption | exact Nat.le_of_ble_eq_true rfl) (by omega) (by omega) ?_
        first | (rw [e17]) | skip
        refine go_icmp_ge (tgt := 34) dX11_tryBehind_9 (by decide) (by unfold inR; omega) (by unfold inR; omega) (fun b9 => ?_) (fun b9 => ?_)
        · skip
          refine go_retV dX11_tryBehind_34 rfl ?_
          exact ⟨ht, ho⟩
        · skip
          omega
  refine am_ev (by decide) [some (.ref 0), some (.int (iZ ((k : Int)))), none] rfl (Nat.le_of_ble_eq_true rfl) ?_
  refine go_iconst dX11_tryBehind_0 ?_
  refine go_ist2 dX11_tryBehind_1 (Nat.le_of_ble_eq_true rfl) rfl ?_
  exact loop (x.length + 1) 0 σ (by omega) (by omega) (by rw [List.take_zero, List.append_nil]; exact h) fr.rf
theorem ev_X11_isTriedLess {σ : am_St} {xs : List Int} {k : Nat} {o : Option (List Int)} (h : trM σ xs) (hl : xs.length ≤ 200) (hk : k < 40) (hb : shO σ k o) (ho : ∀ y, o = some y → okl y ∧ y.length ≤ 200) : am_Ev SH mX11_isTriedLess 0 [.ref 0, .int (iZ (k : Int))] σ (am_rI (fun x σ2 => x = (if lsO xs o = true then 1 else 0) ∧ σ2 = σ)) := by
  have e32 := h.1
  cases o with
  | none =>
    have e17 : σ.2.2 17 (k : Int) = 1000 := hb
    refine am_ev (by decide) [some (.ref 0), some (.int (iZ ((k : Int)))), none] rfl (Nat.le_of_ble_eq_true rfl) ?_
    refine go_aload_n dX11_isTriedLess_0 rfl ?_
    refine go_geti fl_X11_248 dX11_isTriedLess_1 sh_0 rfl ?_
    first | (rw [e32]) | (rw [e17]) | skip
    refine go_aload_n dX11_isTriedLess_4 rfl ?_
    refine go_getr fl_X11_59 dX11_isTriedLess_5 sh_0 rfl ?_
    refine go_iload_n dX11_isTriedLess_8 rfl ?_
    refine go_iaload dX11_isTriedLess_9 (by first | assumption | rfl) (by first | assumption | exact Nat.le_of_ble_eq_true rfl) (by omega) (by omega) ?_
    first | (rw [e32]) | (rw [e17]) | skip
    refine go_icmp_eq (tgt := 32) dX11_isTriedLess_10 (by decide) (by unfold inR; omega) (by unfold inR; omega) (fun b10 => ?_) (fun b10 => ?_)
    · skip
      omega
    · skip
      refine go_aload_n dX11_isTriedLess_13 rfl ?_
      refine go_geti fl_X11_248 dX11_isTriedLess_14 sh_0 rfl ?_
      first | (rw [e32]) | (rw [e17]) | skip
      refine go_aload_n dX11_isTriedLess_17 rfl ?_
      refine go_getr fl_X11_59 dX11_isTriedLess_18 sh_0 rfl ?_
      refine go_iload_n dX11_isTriedLess_21 rfl ?_
      refine go_iaload dX11_isTriedLess_22 (by first | assumption | rfl) (by first | assumption | exact Nat.le_of_ble_eq_true rfl) (by omega) (by omega) ?_
      first | (rw [e32]) | (rw [e17]) | skip
      refine go_icmp_ge (tgt := 30) dX11_isTriedLess_23 (by decide) (by unfold inR; omega) (by unfold inR; omega) (fun b23 => ?_) (fun b23 => ?_)
      · skip
        omega
      · skip
        refine go_iconst dX11_isTriedLess_26 ?_
        refine go_goto (tgt := 31) dX11_isTriedLess_27 (by decide) ?_
        refine go_retZ dX11_isTriedLess_31 rfl (by omega) ?_
        exact ⟨rfl, rfl⟩
  | some y =>
    obtain ⟨hy, hyl⟩ := ho y rfl
    obtain ⟨e17, e18⟩ := hb
    have hlt : lsO xs (some y) = true ↔ ln_bf xs y := by
      unfold lsO
      rw [decide_eq_true_iff]
      exact encN_lt h.2.2 hy
    have ra := okl_R h.2.2
    have rb := okl_R hy
    have loop : ∀ (m2 : Nat) (i : Nat), xs.length - i < m2 → i ≤ xs.length → xs.length = y.length → (∀ j, j < i → xs[j]? = y[j]?) → am_Go SH mX11_isTriedLess 0 (am_rI (fun x σ2 => x = (if lsO xs (some y) = true then 1 else 0) ∧ σ2 = σ)) 34 [some (.ref 0), some (.int (iZ (k : Int))), some (.int (iZ (i : Int)))] [] σ := by
      intro m2
      induction m2 with
      | zero => intro i hm; exact absurd hm (by omega)
      | succ m2 ih =>
        intro i hm hi hyy hin
        by_cases hlt2 : i < xs.length
        · have a19 := h.2.1 i hlt2
          have a18 := e18 i (by omega)
          refine go_iload_n dX11_isTriedLess_34 rfl ?_
          refine go_aload_n dX11_isTriedLess_35 rfl ?_
          refine go_geti fl_X11_248 dX11_isTriedLess_36 sh_0 rfl ?_
          first | (rw [e32]) | (rw [a19]) | (rw [a18]) | skip
          refine go_icmp_ge (tgt := 96) dX11_isTriedLess_39 (by decide) (by unfold inR; omega) (by unfold inR; omega) (fun b39 => ?_) (fun b39 => ?_)
          · skip
            omega
          · skip
            refine go_aload_n dX11_isTriedLess_42 rfl ?_
            refine go_getr fl_X11_65 dX11_isTriedLess_43 sh_0 rfl ?_
            refine go_iload_n dX11_isTriedLess_46 rfl ?_
            refine go_iaload dX11_isTriedLess_47 (by first | assumption | rfl) (by first | assumption | exact Nat.le_of_ble_eq_true rfl) (by omega) (by omega) ?_
            first | (rw [e32]) | (rw [a19]) | (rw [a18]) | skip
            refine go_aload_n dX11_isTriedLess_48 rfl ?_
            refine go_getr fl_X11_62 dX11_isTriedLess_49 sh_0 rfl ?_
            refine go_sipush dX11_isTriedLess_52 rfl ?_
            refine go_iload_n dX11_isTriedLess_55 rfl ?_
            refine go_imul dX11_isTriedLess_56 ?_
            refine go_iload_n dX11_isTriedLess_57 rfl ?_
            refine go_iadd dX11_isTriedLess_58 ?_
            refine go_iaload dX11_isTriedLess_59 (by first | assumption | rfl) (by first | assumption | exact Nat.le_of_ble_eq_true rfl) (by omega) (by omega) ?_
            first | (rw [e32]) | (rw [a19]) | (rw [a18]) | skip
            refine go_icmp_eq (tgt := 90) dX11_isTriedLess_60 (by decide) (ln_at_R ra) (ln_at_R rb) (fun b60 => ?_) (fun b60 => ?_)
            · skip
              refine go_inc2 dX11_isTriedLess_90 (Nat.le_of_ble_eq_true rfl) rfl ?_
              refine go_goto (tgt := 34) dX11_isTriedLess_93 (by decide) ?_
              exact ih (i + 1) (by omega) (by omega) hyy (bf_nx hyy hin (by omega) b60)
            · skip
              refine go_aload_n dX11_isTriedLess_63 rfl ?_
              refine go_getr fl_X11_65 dX11_isTriedLess_64 sh_0 rfl ?_
              refine go_iload_n dX11_isTriedLess_67 rfl ?_
              refine go_iaload dX11_isTriedLess_68 (by first | assumption | rfl) (by first | assumption | exact Nat.le_of_ble_eq_true rfl) (by omega) (by omega) ?_
              first | (rw [e32]) | (rw [a19]) | (rw [a18]) | skip
              refine go_aload_n dX11_isTriedLess_69 rfl ?_
              refine go_getr fl_X11_62 dX11_isTriedLess_70 sh_0 rfl ?_
              refine go_sipush dX11_isTriedLess_73 rfl ?_
              refine go_iload_n dX11_isTriedLess_76 rfl ?_
              refine go_imul dX11_isTriedLess_77 ?_
              refine go_iload_n dX11_isTriedLess_78 rfl ?_
              refine go_iadd dX11_isTriedLess_79 ?_
              refine go_iaload dX11_isTriedLess_80 (by first | assumption | rfl) (by first | assumption | exact Nat.le_of_ble_eq_true rfl) (by omega) (by omega) ?_
              first | (rw [e32]) | (rw [a19]) | (rw [a18]) | skip
              refine go_icmp_ge (tgt := 88) dX11_isTriedLess_81 (by decide) (ln_at_R ra) (ln_at_R rb) (fun b81 => ?_) (fun b81 => ?_)
              · skip
                refine go_iconst dX11_isTriedLess_88 ?_
                refine go_retZ dX11_isTriedLess_89 rfl (by omega) ?_
                refine ⟨?_, rfl⟩
                have hx := hlt.trans (bf_at hyy hin (by omega) b60)
                first | (rw [if_pos (hx.mpr (by omega))]; done) | (rw [if_neg (fun z => absurd (hx.mp z) (by omega))]; done)
              · skip
                refine go_iconst dX11_isTriedLess_84 ?_
                refine go_goto (tgt := 89) dX11_isTriedLess_85 (by decide) ?_
                refine go_retZ dX11_isTriedLess_89 rfl (by omega) ?_
                refine ⟨?_, rfl⟩
                have hx := hlt.trans (bf_at hyy hin (by omega) b60)
                first | (rw [if_pos (hx.mpr (by omega))]; done) | (rw [if_neg (fun z => absurd (hx.mp z) (by omega))]; done)
        · skip
          refine go_iload_n dX11_isTriedLess_34 rfl ?_
          refine go_aload_n dX11_isTriedLess_35 rfl ?_
          refine go_geti fl_X11_248 dX11_isTriedLess_36 sh_0 rfl ?_
          first | (rw [e32]) | skip
          refine go_icmp_ge (tgt := 96) dX11_isTriedLess_39 (by decide) (by unfold inR; omega) (by unfold inR; omega) (fun b39 => ?_) (fun b39 => ?_)
          · skip
            refine go_iconst dX11_isTriedLess_96 ?_
            refine go_retZ dX11_isTriedLess_97 rfl (by omega) ?_
            exact ⟨by rw [if_neg (fun z => bf_eq hyy (fun j hj => hin j (by omega)) (hlt.mp z))], rfl⟩
          · skip
            omega
    refine am_ev (by decide) [some (.ref 0), some (.int (iZ ((k : Int)))), none] rfl (Nat.le_of_ble_eq_true rfl) ?_
    refine go_aload_n dX11_isTriedLess_0 rfl ?_
    refine go_geti fl_X11_248 dX11_isTriedLess_1 sh_0 rfl ?_
    first | (rw [e32]) | (rw [e17]) | skip
    refine go_aload_n dX11_isTriedLess_4 rfl ?_
    refine go_getr fl_X11_59 dX11_isTriedLess_5 sh_0 rfl ?_
    refine go_iload_n dX11_isTriedLess_8 rfl ?_
    refine go_iaload dX11_isTriedLess_9 (by first | assumption | rfl) (by first | assumption | exact Nat.le_of_ble_eq_true rfl) (by omega) (by omega) ?_
    first | (rw [e32]) | (rw [e17]) | skip
    refine go_icmp_eq (tgt := 32) dX11_isTriedLess_10 (by decide) (by unfold inR; omega) (by unfold inR; omega) (fun b10 => ?_) (fun b10 => ?_)
    · skip
      refine go_iconst dX11_isTriedLess_32 ?_
      refine go_ist2 dX11_isTriedLess_33 (Nat.le_of_ble_eq_true rfl) rfl ?_
      exact loop (xs.length + 1) 0 (by omega) (by omega) (by omega) (fun j hj => absurd hj (by omega))
    · skip
      refine go_aload_n dX11_isTriedLess_13 rfl ?_
      refine go_geti fl_X11_248 dX11_isTriedLess_14 sh_0 rfl ?_
      first | (rw [e32]) | (rw [e17]) | skip
      refine go_aload_n dX11_isTriedLess_17 rfl ?_
      refine go_getr fl_X11_59 dX11_isTriedLess_18 sh_0 rfl ?_
      refine go_iload_n dX11_isTriedLess_21 rfl ?_
      refine go_iaload dX11_isTriedLess_22 (by first | assumption | rfl) (by first | assumption | exact Nat.le_of_ble_eq_true rfl) (by omega) (by omega) ?_
      first | (rw [e32]) | (rw [e17]) | skip
      refine go_icmp_ge (tgt := 30) dX11_isTriedLess_23 (by decide) (by unfold inR; omega) (by unfold inR; omega) (fun b23 => ?_) (fun b23 => ?_)
      · skip
        refine go_iconst dX11_isTriedLess_30 ?_
        refine go_retZ dX11_isTriedLess_31 rfl (by omega) ?_
        refine ⟨?_, rfl⟩
        have hx := hlt.trans (bf_len (A := xs) (B := y) (by omega))
        first | (rw [if_pos (hx.mpr (by omega))]; done) | (rw [if_neg (fun z => absurd (hx.mp z) (by omega))]; done)
      · skip
        refine go_iconst dX11_isTriedLess_26 ?_
        refine go_goto (tgt := 31) dX11_isTriedLess_27 (by decide) ?_
        refine go_retZ dX11_isTriedLess_31 rfl (by omega) ?_
        refine ⟨?_, rfl⟩
        have hx := hlt.trans (bf_len (A := xs) (B := y) (by omega))
        first | (rw [if_pos (hx.mpr (by omega))]; done) | (rw [if_neg (fun z => absurd (hx.mp z) (by omega))]; done)
theorem ev_X11_takesTried {σ : am_St} {S Ls : List (List Int)} {β : BT} {v xs : List Int} {k : Nat} (hS : okS S) (h : trM σ xs) (hl : xs.length ≤ 200) (hb : bhM σ S β) (hI : bI S β Ls) (hk : k < 40) (hv : isL S v k) (hne : v ≠ []) : am_Ev SH mX11_takesTried 1 [.ref 0, .int (iZ (k : Int))] σ (am_rI (fun x σ2 => ((x = 1 ∧ lsO xs (β v) = true ∧ bhM σ2 S (bset β v xs)) ∨ (x = 0 ∧ lsO xs (β v) = false ∧ bhM σ2 S β)) ∧ fr [] [17, 18] σ σ2)) := by
  have hlen : ∀ w y, β w = some y → y.length ≤ 200 := fun w y hw => by have := hI.len hw; omega
  have itl := ev_X11_isTriedLess h hl hk (hb k hk v hv hne) (fun y hy => ⟨((hI.2.2 v y hy).2.1).ok hS, hlen v y hy⟩)
  cases hls : lsO xs (β v) with
  | false =>
    rw [hls, if_neg (by decide)] at itl
    refine am_ev (by decide) [some (.ref 0), some (.int (iZ ((k : Int)))), none] rfl (Nat.le_of_ble_eq_true rfl) ?_
    refine go_aload_n dX11_takesTried_0 rfl ?_
    refine go_iload_n dX11_takesTried_1 rfl ?_
    refine go_cvP1 (M2 := mX11_isTriedLess) dX11_takesTried_2 ml_X11_254 mv_X11_isTriedLess sh_0 rfl rfl (Nat.le_of_ble_eq_true rfl) (by decide) (itl) ?_
    refine go_if_ne (tgt := 10) dX11_takesTried_5 (by decide) (by unfold inR; omega) (fun b5 => ?_) (fun b5 => ?_)
    · skip
      exact absurd rfl b5
    · skip
      refine go_iconst dX11_takesTried_8 ?_
      refine go_retZ dX11_takesTried_9 rfl (by omega) ?_
      exact ⟨Or.inr ⟨rfl, rfl, hb⟩, fr.rf⟩
  | true =>
    rw [hls, if_pos rfl] at itl
    have loop : ∀ (m2 : Nat) (i : Nat) (σ1 : am_St), xs.length - i < m2 → i ≤ xs.length → fr [] [17, 18] σ σ1 → σ1.2.2 17 (k : Int) = (xs.length : Int) → (∀ j : Nat, j ≠ k → σ1.2.2 17 (j : Int) = σ.2.2 17 (j : Int)) → (∀ j : Nat, j < i → σ1.2.2 18 (200 * (k : Int) + (j : Int)) = ln_at xs (j : Int)) → (∀ j i : Nat, j ≠ k → i < 200 → σ1.2.2 18 (200 * (j : Int) + (i : Int)) = σ.2.2 18 (200 * (j : Int) + (i : Int))) → am_Go SH mX11_takesTried 1 (am_rI (fun x σ2 => ((x = 1 ∧ true = true ∧ bhM σ2 S (bset β v xs)) ∨ (x = 0 ∧ true = false ∧ bhM σ2 S β)) ∧ fr [] [17, 18] σ σ2)) 22 [some (.ref 0), some (.int (iZ (k : Int))), some (.int (iZ (i : Int)))] [] σ1 := by
      intro m2
      induction m2 with
      | zero => intro i σ1 hm; exact absurd hm (by omega)
      | succ m2 ih =>
        intro i σ1 hm hi ho h17 h17o h18 h18o
        have t1 := h.fr ho (by decide) (by decide)
        have e32 := t1.1
        by_cases hlt : i < xs.length
        · have a19 := t1.2.1 i hlt
          refine go_iload_n dX11_takesTried_22 rfl ?_
          refine go_aload_n dX11_takesTried_23 rfl ?_
          refine go_geti fl_X11_248 dX11_takesTried_24 sh_0 rfl ?_
          first | (rw [e32]) | (rw [a19]) | skip
          refine go_icmp_ge (tgt := 54) dX11_takesTried_27 (by decide) (by unfold inR; omega) (by unfold inR; omega) (fun b27 => ?_) (fun b27 => ?_)
          · skip
            omega
          · skip
            refine go_aload_n dX11_takesTried_30 rfl ?_
            refine go_getr fl_X11_62 dX11_takesTried_31 sh_0 rfl ?_
            refine go_sipush dX11_takesTried_34 rfl ?_
            refine go_iload_n dX11_takesTried_37 rfl ?_
            refine go_imul dX11_takesTried_38 ?_
            refine go_iload_n dX11_takesTried_39 rfl ?_
            refine go_iadd dX11_takesTried_40 ?_
            refine go_aload_n dX11_takesTried_41 rfl ?_
            refine go_getr fl_X11_65 dX11_takesTried_42 sh_0 rfl ?_
            refine go_iload_n dX11_takesTried_45 rfl ?_
            refine go_iaload dX11_takesTried_46 (by first | assumption | rfl) (by first | assumption | exact Nat.le_of_ble_eq_true rfl) (by omega) (by omega) ?_
            first | (rw [e32]) | (rw [a19]) | skip
            refine go_iastore dX11_takesTried_47 (by first | assumption | rfl) (by first | assumption | exact Nat.le_of_ble_eq_true rfl) (by omega) (by omega) ?_
            refine go_inc2 dX11_takesTried_48 (Nat.le_of_ble_eq_true rfl) rfl ?_
            refine go_goto (tgt := 22) dX11_takesTried_51 (by decide) ?_
            refine ih (i + 1) _ (by omega) (by omega) (ho.tr (fr_sa (by decide))) (by rw [am_sa_ne (by omega)]; exact h17) (fun j hj => by rw [am_sa_ne (by omega)]; exact h17o j hj) (fun j hj => ?_) (fun j i' hj hi' => by rw [am_sa_ne (by omega)]; exact h18o j i' hj hi')
            by_cases e : j = i
            · subst e; rw [am_sa_eq]
            · rw [am_sa_ne (by omega)]; exact h18 j (by omega)
        · skip
          refine go_iload_n dX11_takesTried_22 rfl ?_
          refine go_aload_n dX11_takesTried_23 rfl ?_
          refine go_geti fl_X11_248 dX11_takesTried_24 sh_0 rfl ?_
          first | (rw [e32]) | skip
          refine go_icmp_ge (tgt := 54) dX11_takesTried_27 (by decide) (by unfold inR; omega) (by unfold inR; omega) (fun b27 => ?_) (fun b27 => ?_)
          · skip
            refine go_iconst dX11_takesTried_54 ?_
            refine go_retZ dX11_takesTried_55 rfl (by omega) ?_
            exact ⟨Or.inl ⟨rfl, rfl, bhM_set hb hlen hv ⟨h17, fun j hj => h18 j (by omega)⟩ h17o h18o⟩, ho⟩
          · skip
            omega
    have e32 := h.1
    refine am_ev (by decide) [some (.ref 0), some (.int (iZ ((k : Int)))), none] rfl (Nat.le_of_ble_eq_true rfl) ?_
    refine go_aload_n dX11_takesTried_0 rfl ?_
    refine go_iload_n dX11_takesTried_1 rfl ?_
    refine go_cvP1 (M2 := mX11_isTriedLess) dX11_takesTried_2 ml_X11_254 mv_X11_isTriedLess sh_0 rfl rfl (Nat.le_of_ble_eq_true rfl) (by decide) (itl) ?_
    refine go_if_ne (tgt := 10) dX11_takesTried_5 (by decide) (by unfold inR; omega) (fun b5 => ?_) (fun b5 => ?_)
    · skip
      refine go_aload_n dX11_takesTried_10 rfl ?_
      refine go_getr fl_X11_59 dX11_takesTried_11 sh_0 rfl ?_
      refine go_iload_n dX11_takesTried_14 rfl ?_
      refine go_aload_n dX11_takesTried_15 rfl ?_
      refine go_geti fl_X11_248 dX11_takesTried_16 sh_0 rfl ?_
      first | (rw [e32]) | skip
      refine go_iastore dX11_takesTried_19 (by first | assumption | rfl) (by first | assumption | exact Nat.le_of_ble_eq_true rfl) (by omega) (by omega) ?_
      refine go_iconst dX11_takesTried_20 ?_
      refine go_ist2 dX11_takesTried_21 (Nat.le_of_ble_eq_true rfl) rfl ?_
      exact loop (xs.length + 1) 0 _ (by omega) (by omega) (fr_sa (by decide)) am_sa_eq (fun j hj => am_sa_ne (by omega)) (fun j hj => absurd hj (by omega)) (fun j i' hj hi' => am_sa_ne (by omega))
    · skip
      exact absurd b5 (by decide)
theorem ev_X11_goesOnBy {σ : am_St} {L R Ls : List (List Int)} {m k r : Nat} {β : BT} {v : List Int} (h : tbM σ L R m) (hb : bhM σ (mt_sg R m) β) (hI : bI (mt_sg R m) β Ls) (hk : k < 40) (hv : isL (mt_sg R m) v k) (hne : v ≠ []) (hr : r < R.length) : am_Ev SH mX11_goesOnBy 4 [.ref 0, .int (iZ (k : Int)), .int (iZ (r : Int))] σ (am_rI (fun x σ2 => ((x = 1 ∧ ∃ c, bcand β v ((mt_sg R m).getD r []) = some c ∧ lsO c (β v) = true ∧ bhM σ2 (mt_sg R m) (bset β v c)) ∨ (x = 0 ∧ (∀ c, bcand β v ((mt_sg R m).getD r []) = some c → lsO c (β v) = false) ∧ bhM σ2 (mt_sg R m) β)) ∧ fr [32] [17, 18, 19] σ σ2)) := by
  have hS : okS (mt_sg R m) := okS_sg h.2.2.2.2.2.2.2.2 h.2.2.2.2.2.1 m
  have h8 := h.S8
  have hvp := hv.2.1
  have hvl := List.length_pos_iff.mpr hne
  have l4v := (h.pk k).2
  have l4s := (h.sg r).2
  have hs : okl ((mt_sg R m).getD r []) := (h.sg r).1
  have o0 : fr [32] [] σ (am_si σ 0 32 0) := fr_si (by decide)
  have t0 := h.fr o0 (by decide) (by decide)
  have b0 := hb.fr o0 (by decide) (by decide)
  have tr0 : trM (am_si σ 0 32 0) [] := ⟨by simp [am_si], fun j hj => absurd hj (by simp), fun c hc => nomatch hc⟩
  have o0' : fr [32] [17, 18, 19] σ (am_si σ 0 32 0) := o0.wk (by decide) (by decide)
  have sB := ev_X11_signBegins t0 hr hv.1
  have pB := ev_X11_partBegins t0 hv.1 hr
  have lO := ev_X11_lengthOf t0 hv.1
  rw [hvp] at sB pB lO l4v
  have sL := ev_X11_signLength t0 hr
  have sA := fun i => ev_X11_signAt (p := i) t0 hr
  generalize hQ : (am_rI (fun x σ2 => ((x = 1 ∧ ∃ c, bcand β v ((mt_sg R m).getD r []) = some c ∧ lsO c (β v) = true ∧ bhM σ2 (mt_sg R m) (bset β v c)) ∨ (x = 0 ∧ (∀ c, bcand β v ((mt_sg R m).getD r []) = some c → lsO c (β v) = false) ∧ bhM σ2 (mt_sg R m) β)) ∧ fr [32] [17, 18, 19] σ σ2)) = Q
  by_cases hsb : (mt_sg R m).getD r [] <+: v
  · have hle := hsb.length_le
    have d1 : (k + ((mt_sg R m).getD r []).length) / 5 = k / 5 ∧ (k + ((mt_sg R m).getD r []).length) % 5 = k % 5 + ((mt_sg R m).getD r []).length := by
      have := pt_len (S := mt_sg R m) (p := k)
      rw [hvp] at this
      have := (h.sg (k / 5)).2
      omega
    have hok : okp (mt_sg R m) (k + ((mt_sg R m).getD r []).length) := by
      have := pt_len (S := mt_sg R m) (p := k)
      rw [hvp] at this
      have h2 := hv.1.2
      exact ⟨by rw [d1.1]; exact hv.1.1, by rw [d1.1, d1.2]; omega⟩
    have ept : pt (mt_sg R m) (k + ((mt_sg R m).getD r []).length) = v.drop ((mt_sg R m).getD r []).length := by
      rw [← hvp]; unfold pt; rw [d1.1, d1.2, List.drop_drop]
    have lf := ev_X11_leastOf t0 hok (by have := hok.1; omega)
    rw [ept] at lf
    by_cases hd : v.drop ((mt_sg R m).getD r []).length = []
    · have hc : bcand β v ((mt_sg R m).getD r []) = some [] := by unfold bcand; rw [if_pos hsb, if_pos hd]
      have tt := ev_X11_takesTried hS tr0 (by simp) b0 hI hk hv hne
      refine am_ev (by decide) [some (.ref 0), some (.int (iZ ((k : Int)))), some (.int (iZ ((r : Int)))), none, none] rfl (Nat.le_of_ble_eq_true rfl) ?_
      refine go_aload_n dX11_goesOnBy_0 rfl ?_
      refine go_iconst dX11_goesOnBy_1 ?_
      refine go_puti fl_X11_248 dX11_goesOnBy_2 sh_0 rfl am_fit_int ?_
      refine go_aload_n dX11_goesOnBy_5 rfl ?_
      refine go_iload_n dX11_goesOnBy_6 rfl ?_
      refine go_iload_n dX11_goesOnBy_7 rfl ?_
      refine go_cvP2 (M2 := mX11_signBegins) dX11_goesOnBy_8 ml_X11_233 mv_X11_signBegins sh_0 rfl rfl (Nat.le_of_ble_eq_true rfl) (by decide) (sB) ?_
      rw [if_pos hsb]
      refine go_if_eq (tgt := 67) dX11_goesOnBy_11 (by decide) (by unfold inR; omega) (fun b11 => ?_) (fun b11 => ?_)
      · skip
        exact absurd b11 (by decide)
      · skip
        refine go_aload_n dX11_goesOnBy_14 rfl ?_
        refine go_iload_n dX11_goesOnBy_15 rfl ?_
        refine go_aload_n dX11_goesOnBy_16 rfl ?_
        refine go_iload_n dX11_goesOnBy_17 rfl ?_
        refine go_cvP1 (M2 := mX11_signLength) dX11_goesOnBy_18 ml_X11_137 mv_X11_signLength sh_0 rfl rfl (Nat.le_of_ble_eq_true rfl) (by decide) (sL) ?_
        refine go_iadd dX11_goesOnBy_21 ?_
        rw [← Int.natCast_add]
        refine go_cvI1 (M2 := mX11_leastOf) dX11_goesOnBy_22 ml_X11_219 mv_X11_leastOf sh_0 rfl rfl (Nat.le_of_ble_eq_true rfl) (by decide) (lf) (fun x σ1 hq => ?_)
        obtain ⟨⟨n, rfl, hn4, hnl⟩, rfl⟩ := hq
        refine go_ist3 dX11_goesOnBy_25 (Nat.le_of_ble_eq_true rfl) rfl ?_
        refine go_aload_n dX11_goesOnBy_26 rfl ?_
        refine go_iload_n dX11_goesOnBy_27 rfl ?_
        refine go_cvP1 (M2 := mX11_lengthOf) dX11_goesOnBy_28 ml_X11_207 mv_X11_lengthOf sh_0 rfl rfl (Nat.le_of_ble_eq_true rfl) (by decide) (ev_X11_lengthOf t0 hnl.1) ?_
        rw [hnl.2.1, hd]
        refine go_if_le (tgt := 48) dX11_goesOnBy_31 (by decide) (by simp only [List.length_nil]; unfold inR; omega) (fun b31 => ?_) (fun b31 => ?_)
        · skip
          refine go_aload_n dX11_goesOnBy_48 rfl ?_
          refine go_iload_n dX11_goesOnBy_49 rfl ?_
          refine go_cvP1 (M2 := mX11_lengthOf) dX11_goesOnBy_50 ml_X11_207 mv_X11_lengthOf sh_0 rfl rfl (Nat.le_of_ble_eq_true rfl) (by decide) (ev_X11_lengthOf t0 hnl.1) ?_
          rw [hnl.2.1, hd]
          refine go_if_le (tgt := 61) dX11_goesOnBy_53 (by decide) (by simp only [List.length_nil]; unfold inR; omega) (fun b53 => ?_) (fun b53 => ?_)
          · skip
            refine go_aload_n dX11_goesOnBy_61 rfl ?_
            refine go_iload_n dX11_goesOnBy_62 rfl ?_
            refine go_cvI1 (M2 := mX11_takesTried) dX11_goesOnBy_63 ml_X11_260 mv_X11_takesTried sh_0 rfl rfl (Nat.le_of_ble_eq_true rfl) (by decide) (tt) (fun x σ2 hq => ?_)
            subst hQ
            refine go_retZ dX11_goesOnBy_66 rfl (by rcases hq.1 with z | z <;> simp [z.1]) ?_
            refine ⟨?_, o0'.tr (hq.2.wk (by decide) (by decide))⟩
            rcases hq.1 with z | z
            · exact Or.inl ⟨z.1, [], hc, z.2⟩
            · exact Or.inr ⟨z.1, fun c hc2 => by rw [hc] at hc2; rw [← Option.some.inj hc2]; exact z.2.1, z.2.2⟩
          · skip
            exact absurd (by simp) b53
        · skip
          exact absurd (by simp) b31
    · have hdl := List.length_pos_iff.mpr hd
      have hdl2 : (v.drop ((mt_sg R m).getD r []).length).length ≤ 4 := by rw [List.length_drop]; omega
      cases hβ : β (v.drop ((mt_sg R m).getD r []).length) with
      | none =>
        have hc : bcand β v ((mt_sg R m).getD r []) = none := by unfold bcand; rw [if_pos hsb, if_neg hd]; exact hβ
        refine am_ev (by decide) [some (.ref 0), some (.int (iZ ((k : Int)))), some (.int (iZ ((r : Int)))), none, none] rfl (Nat.le_of_ble_eq_true rfl) ?_
        refine go_aload_n dX11_goesOnBy_0 rfl ?_
        refine go_iconst dX11_goesOnBy_1 ?_
        refine go_puti fl_X11_248 dX11_goesOnBy_2 sh_0 rfl am_fit_int ?_
        refine go_aload_n dX11_goesOnBy_5 rfl ?_
        refine go_iload_n dX11_goesOnBy_6 rfl ?_
        refine go_iload_n dX11_goesOnBy_7 rfl ?_
        refine go_cvP2 (M2 := mX11_signBegins) dX11_goesOnBy_8 ml_X11_233 mv_X11_signBegins sh_0 rfl rfl (Nat.le_of_ble_eq_true rfl) (by decide) (sB) ?_
        rw [if_pos hsb]
        refine go_if_eq (tgt := 67) dX11_goesOnBy_11 (by decide) (by unfold inR; omega) (fun b11 => ?_) (fun b11 => ?_)
        · skip
          exact absurd b11 (by decide)
        · skip
          refine go_aload_n dX11_goesOnBy_14 rfl ?_
          refine go_iload_n dX11_goesOnBy_15 rfl ?_
          refine go_aload_n dX11_goesOnBy_16 rfl ?_
          refine go_iload_n dX11_goesOnBy_17 rfl ?_
          refine go_cvP1 (M2 := mX11_signLength) dX11_goesOnBy_18 ml_X11_137 mv_X11_signLength sh_0 rfl rfl (Nat.le_of_ble_eq_true rfl) (by decide) (sL) ?_
          refine go_iadd dX11_goesOnBy_21 ?_
          rw [← Int.natCast_add]
          refine go_cvI1 (M2 := mX11_leastOf) dX11_goesOnBy_22 ml_X11_219 mv_X11_leastOf sh_0 rfl rfl (Nat.le_of_ble_eq_true rfl) (by decide) (lf) (fun x σ1 hq => ?_)
          obtain ⟨⟨n, rfl, hn4, hnl⟩, rfl⟩ := hq
          have e17 := b0 n hn4 _ hnl hd
          rw [hβ] at e17
          refine go_ist3 dX11_goesOnBy_25 (Nat.le_of_ble_eq_true rfl) rfl ?_
          refine go_aload_n dX11_goesOnBy_26 rfl ?_
          refine go_iload_n dX11_goesOnBy_27 rfl ?_
          refine go_cvP1 (M2 := mX11_lengthOf) dX11_goesOnBy_28 ml_X11_207 mv_X11_lengthOf sh_0 rfl rfl (Nat.le_of_ble_eq_true rfl) (by decide) (ev_X11_lengthOf t0 hnl.1) ?_
          rw [hnl.2.1]
          refine go_if_le (tgt := 48) dX11_goesOnBy_31 (by decide) (by unfold inR; omega) (fun b31 => ?_) (fun b31 => ?_)
          · skip
            omega
          · skip
            refine go_aload_n dX11_goesOnBy_34 rfl ?_
            refine go_getr fl_X11_59 dX11_goesOnBy_35 sh_0 rfl ?_
            refine go_iload_n dX11_goesOnBy_38 rfl ?_
            refine go_iaload dX11_goesOnBy_39 (by first | assumption | rfl) (by first | assumption | exact Nat.le_of_ble_eq_true rfl) (by omega) (by omega) ?_
            rw [show (am_si σ 0 32 0).2.2 17 (n : Int) = 1000 from e17]
            refine go_sipush dX11_goesOnBy_40 rfl ?_
            refine go_icmp_ne (tgt := 48) dX11_goesOnBy_43 (by decide) (by unfold inR; omega) (by unfold inR; omega) (fun b43 => ?_) (fun b43 => ?_)
            · skip
              exact absurd rfl b43
            · skip
              refine go_iconst dX11_goesOnBy_46 ?_
              subst hQ
              refine go_retZ dX11_goesOnBy_47 rfl (by omega) ?_
              exact ⟨Or.inr ⟨rfl, fun c hc2 => (by rw [hc] at hc2; exact absurd hc2 (by simp)), b0⟩, o0'⟩
      | some y =>
        have hc : bcand β v ((mt_sg R m).getD r []) = some y := by unfold bcand; rw [if_pos hsb, if_neg hd]; exact hβ
        have hy := hI.len hβ
        have hyo := ((hI.2.2 _ _ hβ).2.1).ok hS
        refine am_ev (by decide) [some (.ref 0), some (.int (iZ ((k : Int)))), some (.int (iZ ((r : Int)))), none, none] rfl (Nat.le_of_ble_eq_true rfl) ?_
        refine go_aload_n dX11_goesOnBy_0 rfl ?_
        refine go_iconst dX11_goesOnBy_1 ?_
        refine go_puti fl_X11_248 dX11_goesOnBy_2 sh_0 rfl am_fit_int ?_
        refine go_aload_n dX11_goesOnBy_5 rfl ?_
        refine go_iload_n dX11_goesOnBy_6 rfl ?_
        refine go_iload_n dX11_goesOnBy_7 rfl ?_
        refine go_cvP2 (M2 := mX11_signBegins) dX11_goesOnBy_8 ml_X11_233 mv_X11_signBegins sh_0 rfl rfl (Nat.le_of_ble_eq_true rfl) (by decide) (sB) ?_
        rw [if_pos hsb]
        refine go_if_eq (tgt := 67) dX11_goesOnBy_11 (by decide) (by unfold inR; omega) (fun b11 => ?_) (fun b11 => ?_)
        · skip
          exact absurd b11 (by decide)
        · skip
          refine go_aload_n dX11_goesOnBy_14 rfl ?_
          refine go_iload_n dX11_goesOnBy_15 rfl ?_
          refine go_aload_n dX11_goesOnBy_16 rfl ?_
          refine go_iload_n dX11_goesOnBy_17 rfl ?_
          refine go_cvP1 (M2 := mX11_signLength) dX11_goesOnBy_18 ml_X11_137 mv_X11_signLength sh_0 rfl rfl (Nat.le_of_ble_eq_true rfl) (by decide) (sL) ?_
          refine go_iadd dX11_goesOnBy_21 ?_
          rw [← Int.natCast_add]
          refine go_cvI1 (M2 := mX11_leastOf) dX11_goesOnBy_22 ml_X11_219 mv_X11_leastOf sh_0 rfl rfl (Nat.le_of_ble_eq_true rfl) (by decide) (lf) (fun x σ1 hq => ?_)
          obtain ⟨⟨n, rfl, hn4, hnl⟩, rfl⟩ := hq
          have e17 := b0 n hn4 _ hnl hd
          rw [hβ] at e17
          refine go_ist3 dX11_goesOnBy_25 (Nat.le_of_ble_eq_true rfl) rfl ?_
          refine go_aload_n dX11_goesOnBy_26 rfl ?_
          refine go_iload_n dX11_goesOnBy_27 rfl ?_
          refine go_cvP1 (M2 := mX11_lengthOf) dX11_goesOnBy_28 ml_X11_207 mv_X11_lengthOf sh_0 rfl rfl (Nat.le_of_ble_eq_true rfl) (by decide) (ev_X11_lengthOf t0 hnl.1) ?_
          rw [hnl.2.1]
          refine go_if_le (tgt := 48) dX11_goesOnBy_31 (by decide) (by unfold inR; omega) (fun b31 => ?_) (fun b31 => ?_)
          · skip
            omega
          · skip
            refine go_aload_n dX11_goesOnBy_34 rfl ?_
            refine go_getr fl_X11_59 dX11_goesOnBy_35 sh_0 rfl ?_
            refine go_iload_n dX11_goesOnBy_38 rfl ?_
            refine go_iaload dX11_goesOnBy_39 (by first | assumption | rfl) (by first | assumption | exact Nat.le_of_ble_eq_true rfl) (by omega) (by omega) ?_
            rw [show (am_si σ 0 32 0).2.2 17 (n : Int) = (y.length : Int) from e17.1]
            refine go_sipush dX11_goesOnBy_40 rfl ?_
            refine go_icmp_ne (tgt := 48) dX11_goesOnBy_43 (by decide) (by unfold inR; omega) (by unfold inR; omega) (fun b43 => ?_) (fun b43 => ?_)
            · skip
              refine go_aload_n dX11_goesOnBy_48 rfl ?_
              refine go_iload_n dX11_goesOnBy_49 rfl ?_
              refine go_cvP1 (M2 := mX11_lengthOf) dX11_goesOnBy_50 ml_X11_207 mv_X11_lengthOf sh_0 rfl rfl (Nat.le_of_ble_eq_true rfl) (by decide) (ev_X11_lengthOf t0 hnl.1) ?_
              rw [hnl.2.1]
              refine go_if_le (tgt := 61) dX11_goesOnBy_53 (by decide) (by unfold inR; omega) (fun b53 => ?_) (fun b53 => ?_)
              · skip
                omega
              · skip
                refine go_aload_n dX11_goesOnBy_56 rfl ?_
                refine go_iload_n dX11_goesOnBy_57 rfl ?_
                refine go_cvV1 (M2 := mX11_tryBehind) dX11_goesOnBy_58 ml_X11_257 mv_X11_tryBehind sh_0 rfl rfl (Nat.le_of_ble_eq_true rfl) (by decide) (ev_X11_tryBehind tr0 hn4 e17 hyo (by simp only [List.length_nil]; omega)) (fun σ3 hq3 => ?_)
                rw [List.nil_append] at hq3
                refine go_aload_n dX11_goesOnBy_61 rfl ?_
                refine go_iload_n dX11_goesOnBy_62 rfl ?_
                refine go_cvI1 (M2 := mX11_takesTried) dX11_goesOnBy_63 ml_X11_260 mv_X11_takesTried sh_0 rfl rfl (Nat.le_of_ble_eq_true rfl) (by decide) (ev_X11_takesTried hS hq3.1 (by omega) (b0.fr hq3.2 (by decide) (by decide)) hI hk hv hne) (fun x σ2 hq => ?_)
                subst hQ
                refine go_retZ dX11_goesOnBy_66 rfl (by rcases hq.1 with z | z <;> simp [z.1]) ?_
                refine ⟨?_, o0'.tr ((hq3.2.wk (by decide) (by decide)).tr (hq.2.wk (by decide) (by decide)))⟩
                rcases hq.1 with z | z
                · exact Or.inl ⟨z.1, y, hc, z.2⟩
                · exact Or.inr ⟨z.1, fun c hc2 => by rw [hc] at hc2; rw [← Option.some.inj hc2]; exact z.2.1, z.2.2⟩
            · skip
              omega
  · by_cases hpb : v <+: (mt_sg R m).getD r []
    · have hle := hpb.length_le
      have hlt : v.length < ((mt_sg R m).getD r []).length := by
        rcases Nat.lt_or_ge v.length ((mt_sg R m).getD r []).length with z | z
        · exact z
        · exact absurd (by rw [hpb.eq_of_length (Nat.le_antisymm hle z)]; exact List.prefix_rfl) hsb
      have hd : ((mt_sg R m).getD r []).drop v.length ≠ [] := fun z => by have := List.drop_eq_nil_iff.mp z; omega
      have hok := okp_mk (S := mt_sg R m) (r := r) (q := v.length) (by omega) (by omega) hle
      have ept := pt_mk (S := mt_sg R m) (r := r) (q := v.length) (by omega)
      have lf := ev_X11_leastOf t0 hok (by omega)
      rw [ept] at lf
      cases hβ : β (((mt_sg R m).getD r []).drop v.length) with
      | none =>
        have hc : bcand β v ((mt_sg R m).getD r []) = none := by unfold bcand; rw [if_neg hsb, if_pos hpb, hβ]; rfl
        refine am_ev (by decide) [some (.ref 0), some (.int (iZ ((k : Int)))), some (.int (iZ ((r : Int)))), none, none] rfl (Nat.le_of_ble_eq_true rfl) ?_
        refine go_aload_n dX11_goesOnBy_0 rfl ?_
        refine go_iconst dX11_goesOnBy_1 ?_
        refine go_puti fl_X11_248 dX11_goesOnBy_2 sh_0 rfl am_fit_int ?_
        refine go_aload_n dX11_goesOnBy_5 rfl ?_
        refine go_iload_n dX11_goesOnBy_6 rfl ?_
        refine go_iload_n dX11_goesOnBy_7 rfl ?_
        refine go_cvP2 (M2 := mX11_signBegins) dX11_goesOnBy_8 ml_X11_233 mv_X11_signBegins sh_0 rfl rfl (Nat.le_of_ble_eq_true rfl) (by decide) (sB) ?_
        rw [if_neg hsb]
        refine go_if_eq (tgt := 67) dX11_goesOnBy_11 (by decide) (by unfold inR; omega) (fun b11 => ?_) (fun b11 => ?_)
        · skip
          refine go_aload_n dX11_goesOnBy_67 rfl ?_
          refine go_iload_n dX11_goesOnBy_68 rfl ?_
          refine go_iload_n dX11_goesOnBy_69 rfl ?_
          refine go_cvP2 (M2 := mX11_partBegins) dX11_goesOnBy_70 ml_X11_226 mv_X11_partBegins sh_0 rfl rfl (Nat.le_of_ble_eq_true rfl) (by decide) (pB) ?_
          rw [if_pos hpb]
          refine go_if_eq (tgt := 149) dX11_goesOnBy_73 (by decide) (by unfold inR; omega) (fun b73 => ?_) (fun b73 => ?_)
          · skip
            exact absurd b73 (by decide)
          · skip
            refine go_aload_n dX11_goesOnBy_76 rfl ?_
            refine go_iconst dX11_goesOnBy_77 ?_
            refine go_iload_n dX11_goesOnBy_78 rfl ?_
            refine go_imul dX11_goesOnBy_79 ?_
            refine go_aload_n dX11_goesOnBy_80 rfl ?_
            refine go_iload_n dX11_goesOnBy_81 rfl ?_
            refine go_cvP1 (M2 := mX11_lengthOf) dX11_goesOnBy_82 ml_X11_207 mv_X11_lengthOf sh_0 rfl rfl (Nat.le_of_ble_eq_true rfl) (by decide) (lO) ?_
            refine go_iadd dX11_goesOnBy_85 ?_
            rw [show 5 * (r : Int) + (v.length : Int) = ((5 * r + v.length : Nat) : Int) by omega]
            refine go_cvI1 (M2 := mX11_leastOf) dX11_goesOnBy_86 ml_X11_219 mv_X11_leastOf sh_0 rfl rfl (Nat.le_of_ble_eq_true rfl) (by decide) (lf) (fun x σ1 hq => ?_)
            obtain ⟨⟨n, rfl, hn4, hnl⟩, rfl⟩ := hq
            have e17 := b0 n hn4 _ hnl hd
            rw [hβ] at e17
            refine go_ist3 dX11_goesOnBy_89 (Nat.le_of_ble_eq_true rfl) rfl ?_
            refine go_aload_n dX11_goesOnBy_90 rfl ?_
            refine go_getr fl_X11_59 dX11_goesOnBy_91 sh_0 rfl ?_
            refine go_iload_n dX11_goesOnBy_94 rfl ?_
            refine go_iaload dX11_goesOnBy_95 (by first | assumption | rfl) (by first | assumption | exact Nat.le_of_ble_eq_true rfl) (by omega) (by omega) ?_
            rw [show (am_si σ 0 32 0).2.2 17 (n : Int) = 1000 from e17]
            refine go_sipush dX11_goesOnBy_96 rfl ?_
            refine go_icmp_ne (tgt := 104) dX11_goesOnBy_99 (by decide) (by unfold inR; omega) (by unfold inR; omega) (fun b99 => ?_) (fun b99 => ?_)
            · skip
              exact absurd rfl b99
            · skip
              refine go_iconst dX11_goesOnBy_102 ?_
              subst hQ
              refine go_retZ dX11_goesOnBy_103 rfl (by omega) ?_
              exact ⟨Or.inr ⟨rfl, fun c hc2 => (by rw [hc] at hc2; exact absurd hc2 (by simp)), b0⟩, o0'⟩
        · skip
          exact absurd rfl b11
      | some y =>
        have hc : bcand β v ((mt_sg R m).getD r []) = some (((mt_sg R m).getD r []).drop v.length ++ y) := by unfold bcand; rw [if_neg hsb, if_pos hpb, hβ]; rfl
        have hy := hI.len hβ
        have hyo := ((hI.2.2 _ _ hβ).2.1).ok hS
        have hdl : (((mt_sg R m).getD r []).drop v.length).length = ((mt_sg R m).getD r []).length - v.length := List.length_drop
        have loop : ∀ (n : Nat), n < 40 → isL (mt_sg R m) (((mt_sg R m).getD r []).drop v.length) n → ∀ (m2 : Nat) (i : Nat) (σ1 : am_St), ((mt_sg R m).getD r []).length - v.length - i < m2 → v.length + i ≤ ((mt_sg R m).getD r []).length → trM σ1 ((((mt_sg R m).getD r []).drop v.length).take i) → fr [32] [19] (am_si σ 0 32 0) σ1 → am_Go SH mX11_goesOnBy 4 Q 111 [some (.ref 0), some (.int (iZ (k : Int))), some (.int (iZ (r : Int))), some (.int (iZ (n : Int))), some (.int (iZ ((v.length + i : Nat) : Int)))] [] σ1 := by
          intro n hn4 hnl m2
          induction m2 with
          | zero => intro i σ1 hm; exact absurd hm (by omega)
          | succ m2 ih =>
            intro i σ1 hm hi ht ho
            have t1 := t0.fr ho (by decide) (by decide)
            by_cases hlt2 : v.length + i < ((mt_sg R m).getD r []).length
            · have hwi : i < (((mt_sg R m).getD r []).drop v.length).length := by omega
              have hle2 : ((((mt_sg R m).getD r []).drop v.length).take i).length = i := by rw [List.length_take, Nat.min_eq_left (by omega)]
              have ech : ln_at ((mt_sg R m).getD r []) ((v.length + i : Nat) : Int) = ln_at (((mt_sg R m).getD r []).drop v.length) (i : Int) := by
                rw [ln_at_dr hlt2]; push_cast; rfl
              have sA1 := ev_X11_signAt (p := v.length + i) t1 hr hlt2
              rw [ech] at sA1
              have tl := ev_X11_tryLetter ht (okl_at (hs.drop v.length) hwi) (by omega)
              rw [← take_snoc hwi] at tl
              refine go_iload dX11_goesOnBy_111 rfl ?_
              refine go_aload_n dX11_goesOnBy_113 rfl ?_
              refine go_iload_n dX11_goesOnBy_114 rfl ?_
              refine go_cvP1 (M2 := mX11_signLength) dX11_goesOnBy_115 ml_X11_137 mv_X11_signLength sh_0 rfl rfl (Nat.le_of_ble_eq_true rfl) (by decide) (ev_X11_signLength t1 hr) ?_
              refine go_icmp_ge (tgt := 138) dX11_goesOnBy_118 (by decide) (by unfold inR; omega) (by unfold inR; omega) (fun b118 => ?_) (fun b118 => ?_)
              · skip
                omega
              · skip
                refine go_aload_n dX11_goesOnBy_121 rfl ?_
                refine go_aload_n dX11_goesOnBy_122 rfl ?_
                refine go_iload_n dX11_goesOnBy_123 rfl ?_
                refine go_iload dX11_goesOnBy_124 rfl ?_
                refine go_cvP2 (M2 := mX11_signAt) dX11_goesOnBy_126 ml_X11_140 mv_X11_signAt sh_0 rfl rfl (Nat.le_of_ble_eq_true rfl) (by decide) (sA1) ?_
                refine go_cvV1 (M2 := mX11_tryLetter) dX11_goesOnBy_129 ml_X11_251 mv_X11_tryLetter sh_0 rfl rfl (Nat.le_of_ble_eq_true rfl) (by decide) (tl) (fun σ4 hq => ?_)
                refine go_inc4 dX11_goesOnBy_132 (Nat.le_of_ble_eq_true rfl) rfl ?_
                refine go_goto (tgt := 111) dX11_goesOnBy_135 (by decide) ?_
                exact ih (i + 1) _ (by omega) (by omega) hq.1 (ho.tr hq.2)
            · have e : (((mt_sg R m).getD r []).drop v.length).take i = ((mt_sg R m).getD r []).drop v.length := List.take_of_length_le (by omega)
              rw [e] at ht
              have e17 := (b0.fr ho (by decide) (by decide)) n hn4 _ hnl hd
              rw [hβ] at e17
              refine go_iload dX11_goesOnBy_111 rfl ?_
              refine go_aload_n dX11_goesOnBy_113 rfl ?_
              refine go_iload_n dX11_goesOnBy_114 rfl ?_
              refine go_cvP1 (M2 := mX11_signLength) dX11_goesOnBy_115 ml_X11_137 mv_X11_signLength sh_0 rfl rfl (Nat.le_of_ble_eq_true rfl) (by decide) (ev_X11_signLength t1 hr) ?_
              refine go_icmp_ge (tgt := 138) dX11_goesOnBy_118 (by decide) (by unfold inR; omega) (by unfold inR; omega) (fun b118 => ?_) (fun b118 => ?_)
              · skip
                refine go_aload_n dX11_goesOnBy_138 rfl ?_
                refine go_iload_n dX11_goesOnBy_139 rfl ?_
                refine go_cvV1 (M2 := mX11_tryBehind) dX11_goesOnBy_140 ml_X11_257 mv_X11_tryBehind sh_0 rfl rfl (Nat.le_of_ble_eq_true rfl) (by decide) (ev_X11_tryBehind ht hn4 e17 hyo (by omega)) (fun σ3 hq3 => ?_)
                refine go_aload_n dX11_goesOnBy_143 rfl ?_
                refine go_iload_n dX11_goesOnBy_144 rfl ?_
                refine go_cvI1 (M2 := mX11_takesTried) dX11_goesOnBy_145 ml_X11_260 mv_X11_takesTried sh_0 rfl rfl (Nat.le_of_ble_eq_true rfl) (by decide) (ev_X11_takesTried hS hq3.1 (by rw [List.length_append]; omega) ((b0.fr ho (by decide) (by decide)).fr hq3.2 (by decide) (by decide)) hI hk hv hne) (fun x σ2 hq => ?_)
                subst hQ
                refine go_retZ dX11_goesOnBy_148 rfl (by rcases hq.1 with z | z <;> simp [z.1]) ?_
                refine ⟨?_, o0'.tr ((ho.wk (by decide) (by decide)).tr ((hq3.2.wk (by decide) (by decide)).tr (hq.2.wk (by decide) (by decide))))⟩
                rcases hq.1 with z | z
                · exact Or.inl ⟨z.1, _, hc, z.2⟩
                · exact Or.inr ⟨z.1, fun c hc2 => by rw [hc] at hc2; rw [← Option.some.inj hc2]; exact z.2.1, z.2.2⟩
              · skip
                omega
        refine am_ev (by decide) [some (.ref 0), some (.int (iZ ((k : Int)))), some (.int (iZ ((r : Int)))), none, none] rfl (Nat.le_of_ble_eq_true rfl) ?_
        refine go_aload_n dX11_goesOnBy_0 rfl ?_
        refine go_iconst dX11_goesOnBy_1 ?_
        refine go_puti fl_X11_248 dX11_goesOnBy_2 sh_0 rfl am_fit_int ?_
        refine go_aload_n dX11_goesOnBy_5 rfl ?_
        refine go_iload_n dX11_goesOnBy_6 rfl ?_
        refine go_iload_n dX11_goesOnBy_7 rfl ?_
        refine go_cvP2 (M2 := mX11_signBegins) dX11_goesOnBy_8 ml_X11_233 mv_X11_signBegins sh_0 rfl rfl (Nat.le_of_ble_eq_true rfl) (by decide) (sB) ?_
        rw [if_neg hsb]
        refine go_if_eq (tgt := 67) dX11_goesOnBy_11 (by decide) (by unfold inR; omega) (fun b11 => ?_) (fun b11 => ?_)
        · skip
          refine go_aload_n dX11_goesOnBy_67 rfl ?_
          refine go_iload_n dX11_goesOnBy_68 rfl ?_
          refine go_iload_n dX11_goesOnBy_69 rfl ?_
          refine go_cvP2 (M2 := mX11_partBegins) dX11_goesOnBy_70 ml_X11_226 mv_X11_partBegins sh_0 rfl rfl (Nat.le_of_ble_eq_true rfl) (by decide) (pB) ?_
          rw [if_pos hpb]
          refine go_if_eq (tgt := 149) dX11_goesOnBy_73 (by decide) (by unfold inR; omega) (fun b73 => ?_) (fun b73 => ?_)
          · skip
            exact absurd b73 (by decide)
          · skip
            refine go_aload_n dX11_goesOnBy_76 rfl ?_
            refine go_iconst dX11_goesOnBy_77 ?_
            refine go_iload_n dX11_goesOnBy_78 rfl ?_
            refine go_imul dX11_goesOnBy_79 ?_
            refine go_aload_n dX11_goesOnBy_80 rfl ?_
            refine go_iload_n dX11_goesOnBy_81 rfl ?_
            refine go_cvP1 (M2 := mX11_lengthOf) dX11_goesOnBy_82 ml_X11_207 mv_X11_lengthOf sh_0 rfl rfl (Nat.le_of_ble_eq_true rfl) (by decide) (lO) ?_
            refine go_iadd dX11_goesOnBy_85 ?_
            rw [show 5 * (r : Int) + (v.length : Int) = ((5 * r + v.length : Nat) : Int) by omega]
            refine go_cvI1 (M2 := mX11_leastOf) dX11_goesOnBy_86 ml_X11_219 mv_X11_leastOf sh_0 rfl rfl (Nat.le_of_ble_eq_true rfl) (by decide) (lf) (fun x σ1 hq => ?_)
            obtain ⟨⟨n, rfl, hn4, hnl⟩, rfl⟩ := hq
            have e17 := b0 n hn4 _ hnl hd
            rw [hβ] at e17
            refine go_ist3 dX11_goesOnBy_89 (Nat.le_of_ble_eq_true rfl) rfl ?_
            refine go_aload_n dX11_goesOnBy_90 rfl ?_
            refine go_getr fl_X11_59 dX11_goesOnBy_91 sh_0 rfl ?_
            refine go_iload_n dX11_goesOnBy_94 rfl ?_
            refine go_iaload dX11_goesOnBy_95 (by first | assumption | rfl) (by first | assumption | exact Nat.le_of_ble_eq_true rfl) (by omega) (by omega) ?_
            rw [show (am_si σ 0 32 0).2.2 17 (n : Int) = (y.length : Int) from e17.1]
            refine go_sipush dX11_goesOnBy_96 rfl ?_
            refine go_icmp_ne (tgt := 104) dX11_goesOnBy_99 (by decide) (by unfold inR; omega) (by unfold inR; omega) (fun b99 => ?_) (fun b99 => ?_)
            · skip
              refine go_aload_n dX11_goesOnBy_104 rfl ?_
              refine go_iload_n dX11_goesOnBy_105 rfl ?_
              refine go_cvP1 (M2 := mX11_lengthOf) dX11_goesOnBy_106 ml_X11_207 mv_X11_lengthOf sh_0 rfl rfl (Nat.le_of_ble_eq_true rfl) (by decide) (lO) ?_
              refine go_ist4 dX11_goesOnBy_109 (Nat.le_of_ble_eq_true rfl) rfl ?_
              exact loop n hn4 hnl (((mt_sg R m).getD r []).length + 1) 0 _ (by omega) (by omega) tr0 fr.rf
            · skip
              omega
        · skip
          exact absurd rfl b11
    · have hc : bcand β v ((mt_sg R m).getD r []) = none := by unfold bcand; rw [if_neg hsb, if_neg hpb]
      refine am_ev (by decide) [some (.ref 0), some (.int (iZ ((k : Int)))), some (.int (iZ ((r : Int)))), none, none] rfl (Nat.le_of_ble_eq_true rfl) ?_
      refine go_aload_n dX11_goesOnBy_0 rfl ?_
      refine go_iconst dX11_goesOnBy_1 ?_
      refine go_puti fl_X11_248 dX11_goesOnBy_2 sh_0 rfl am_fit_int ?_
      refine go_aload_n dX11_goesOnBy_5 rfl ?_
      refine go_iload_n dX11_goesOnBy_6 rfl ?_
      refine go_iload_n dX11_goesOnBy_7 rfl ?_
      refine go_cvP2 (M2 := mX11_signBegins) dX11_goesOnBy_8 ml_X11_233 mv_X11_signBegins sh_0 rfl rfl (Nat.le_of_ble_eq_true rfl) (by decide) (sB) ?_
      rw [if_neg hsb]
      refine go_if_eq (tgt := 67) dX11_goesOnBy_11 (by decide) (by unfold inR; omega) (fun b11 => ?_) (fun b11 => ?_)
      · skip
        refine go_aload_n dX11_goesOnBy_67 rfl ?_
        refine go_iload_n dX11_goesOnBy_68 rfl ?_
        refine go_iload_n dX11_goesOnBy_69 rfl ?_
        refine go_cvP2 (M2 := mX11_partBegins) dX11_goesOnBy_70 ml_X11_226 mv_X11_partBegins sh_0 rfl rfl (Nat.le_of_ble_eq_true rfl) (by decide) (pB) ?_
        rw [if_neg hpb]
        refine go_if_eq (tgt := 149) dX11_goesOnBy_73 (by decide) (by unfold inR; omega) (fun b73 => ?_) (fun b73 => ?_)
        · skip
          refine go_iconst dX11_goesOnBy_149 ?_
          subst hQ
          refine go_retZ dX11_goesOnBy_150 rfl (by omega) ?_
          exact ⟨Or.inr ⟨rfl, fun c hc2 => (by rw [hc] at hc2; exact absurd hc2 (by simp)), b0⟩, o0'⟩
        · skip
          exact absurd rfl b73
      · skip
        exact absurd rfl b11

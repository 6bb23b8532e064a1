/-! ===== the reference: isClashLess, clashOf, layClash ===== -/
/-- the clash found so far -/
def clM (σ : am_St) : Option (List Int) → Prop
  | none => σ.1 0 34 = -1
  | some t => σ.1 0 34 = (t.length : Int) ∧ arA σ 20 t ∧ okl t ∧ t.length ≤ 200
theorem clM.fr {σ σ' : am_St} {c : Option (List Int)} {fs as : List Nat} (h : clM σ c) (ho : frr fs as σ σ') (h1 : 34 ∉ fs) (h2 : 20 ∉ as) : clM σ' c := by
  cases c with
  | none => show σ'.1 0 34 = -1; rw [ho.f 34 h1]; exact h
  | some t => exact ⟨by rw [ho.f 34 h1]; exact h.1, h.2.1.fr ho h2, h.2.2⟩
theorem ev_X11_isClashLess {σ : am_St} {xs : List Int} {o : Option (List Int)} (h : trM σ xs) (hl : xs.length ≤ 200) (hb : clM σ o) : am_Ev SH mX11_isClashLess 0 [.ref 0] σ (am_rI (fun x σ2 => x = (if lsO xs o = true then 1 else 0) ∧ σ2 = σ)) := by
  have e32 := h.1
  cases o with
  | none =>
    have e34 : σ.1 0 34 = -1 := hb
    refine am_ev (by decide) [some (.ref 0), none] rfl (Nat.le_of_ble_eq_true rfl) ?_
    refine go_aload_n dX11_isClashLess_0 rfl ?_
    refine go_geti fl_X11_269 dX11_isClashLess_1 sh_0 rfl ?_
    first | (rw [e32]) | (rw [e34]) | skip
    refine go_iconst dX11_isClashLess_4 ?_
    refine go_icmp_eq (tgt := 19) dX11_isClashLess_5 (by decide) (by unfold inR; omega) (by unfold inR; omega) (fun b5 => ?_) (fun b5 => ?_)
    · skip
      refine go_aload_n dX11_isClashLess_19 rfl ?_
      refine go_geti fl_X11_269 dX11_isClashLess_20 sh_0 rfl ?_
      first | (rw [e32]) | (rw [e34]) | skip
      refine go_iconst dX11_isClashLess_23 ?_
      refine go_icmp_eq (tgt := 38) dX11_isClashLess_24 (by decide) (by unfold inR; omega) (by unfold inR; omega) (fun b24 => ?_) (fun b24 => ?_)
      · skip
        refine go_iconst dX11_isClashLess_38 ?_
        refine go_goto (tgt := 43) dX11_isClashLess_39 (by decide) ?_
        refine go_retZ dX11_isClashLess_43 rfl (by omega) ?_
        exact ⟨rfl, rfl⟩
      · skip
        exact absurd rfl b24
    · skip
      exact absurd rfl b5
  | some y =>
    obtain ⟨e34, e20, hy, hyl⟩ := hb
    have hlt : lsO xs (some y) = true ↔ ln_bf xs y := by
      unfold lsO
      rw [decide_eq_true_iff]
      exact encN_lt h.2.2 hy
    have ra := okl_R h.2.2
    have rb := okl_R hy
    have loop : ∀ (m2 : Nat) (i : Nat), xs.length - i < m2 → i ≤ xs.length → xs.length = y.length → (∀ j, j < i → xs[j]? = y[j]?) → am_Go SH mX11_isClashLess 0 (am_rI (fun x σ2 => x = (if lsO xs (some y) = true then 1 else 0) ∧ σ2 = σ)) 46 [some (.ref 0), some (.int (iZ (i : Int)))] [] σ := by
      intro m2
      induction m2 with
      | zero => intro i hm; exact absurd hm (by omega)
      | succ m2 ih =>
        intro i hm hi hyy hin
        by_cases hlt2 : i < xs.length
        · have a19 := h.2.1 i hlt2
          have a20 := e20 i (by omega)
          refine go_iload_n dX11_isClashLess_46 rfl ?_
          refine go_aload_n dX11_isClashLess_47 rfl ?_
          refine go_geti fl_X11_248 dX11_isClashLess_48 sh_0 rfl ?_
          first | (rw [e32]) | (rw [a19]) | (rw [a20]) | skip
          refine go_icmp_ge (tgt := 96) dX11_isClashLess_51 (by decide) (by unfold inR; omega) (by unfold inR; omega) (fun b51 => ?_) (fun b51 => ?_)
          · skip
            omega
          · skip
            refine go_aload_n dX11_isClashLess_54 rfl ?_
            refine go_getr fl_X11_65 dX11_isClashLess_55 sh_0 rfl ?_
            refine go_iload_n dX11_isClashLess_58 rfl ?_
            refine go_iaload dX11_isClashLess_59 (by first | assumption | rfl) (by first | assumption | exact Nat.le_of_ble_eq_true rfl) (by omega) (by omega) ?_
            first | (rw [e32]) | (rw [a19]) | (rw [a20]) | skip
            refine go_aload_n dX11_isClashLess_60 rfl ?_
            refine go_getr fl_X11_68 dX11_isClashLess_61 sh_0 rfl ?_
            refine go_iload_n dX11_isClashLess_64 rfl ?_
            refine go_iaload dX11_isClashLess_65 (by first | assumption | rfl) (by first | assumption | exact Nat.le_of_ble_eq_true rfl) (by omega) (by omega) ?_
            first | (rw [e32]) | (rw [a19]) | (rw [a20]) | skip
            refine go_icmp_eq (tgt := 90) dX11_isClashLess_66 (by decide) (ln_at_R ra) (ln_at_R rb) (fun b66 => ?_) (fun b66 => ?_)
            · skip
              refine go_inc1 dX11_isClashLess_90 (Nat.le_of_ble_eq_true rfl) rfl ?_
              refine go_goto (tgt := 46) dX11_isClashLess_93 (by decide) ?_
              exact ih (i + 1) (by omega) (by omega) hyy (bf_nx hyy hin (by omega) b66)
            · skip
              refine go_aload_n dX11_isClashLess_69 rfl ?_
              refine go_getr fl_X11_65 dX11_isClashLess_70 sh_0 rfl ?_
              refine go_iload_n dX11_isClashLess_73 rfl ?_
              refine go_iaload dX11_isClashLess_74 (by first | assumption | rfl) (by first | assumption | exact Nat.le_of_ble_eq_true rfl) (by omega) (by omega) ?_
              first | (rw [e32]) | (rw [a19]) | (rw [a20]) | skip
              refine go_aload_n dX11_isClashLess_75 rfl ?_
              refine go_getr fl_X11_68 dX11_isClashLess_76 sh_0 rfl ?_
              refine go_iload_n dX11_isClashLess_79 rfl ?_
              refine go_iaload dX11_isClashLess_80 (by first | assumption | rfl) (by first | assumption | exact Nat.le_of_ble_eq_true rfl) (by omega) (by omega) ?_
              first | (rw [e32]) | (rw [a19]) | (rw [a20]) | skip
              refine go_icmp_ge (tgt := 88) dX11_isClashLess_81 (by decide) (ln_at_R ra) (ln_at_R rb) (fun b81 => ?_) (fun b81 => ?_)
              · skip
                refine go_iconst dX11_isClashLess_88 ?_
                refine go_retZ dX11_isClashLess_89 rfl (by omega) ?_
                refine ⟨?_, rfl⟩
                have hx := hlt.trans (bf_at hyy hin (by omega) b66)
                first | (rw [if_pos (hx.mpr (by omega))]; done) | (rw [if_neg (fun z => absurd (hx.mp z) (by omega))]; done)
              · skip
                refine go_iconst dX11_isClashLess_84 ?_
                refine go_goto (tgt := 89) dX11_isClashLess_85 (by decide) ?_
                refine go_retZ dX11_isClashLess_89 rfl (by omega) ?_
                refine ⟨?_, rfl⟩
                have hx := hlt.trans (bf_at hyy hin (by omega) b66)
                first | (rw [if_pos (hx.mpr (by omega))]; done) | (rw [if_neg (fun z => absurd (hx.mp z) (by omega))]; done)
        · skip
          refine go_iload_n dX11_isClashLess_46 rfl ?_
          refine go_aload_n dX11_isClashLess_47 rfl ?_
          refine go_geti fl_X11_248 dX11_isClashLess_48 sh_0 rfl ?_
          first | (rw [e32]) | skip
          refine go_icmp_ge (tgt := 96) dX11_isClashLess_51 (by decide) (by unfold inR; omega) (by unfold inR; omega) (fun b51 => ?_) (fun b51 => ?_)
          · skip
            refine go_iconst dX11_isClashLess_96 ?_
            refine go_retZ dX11_isClashLess_97 rfl (by omega) ?_
            exact ⟨by rw [if_neg (fun z => bf_eq hyy (fun j hj => hin j (by omega)) (hlt.mp z))], rfl⟩
          · skip
            omega
    refine am_ev (by decide) [some (.ref 0), none] rfl (Nat.le_of_ble_eq_true rfl) ?_
    refine go_aload_n dX11_isClashLess_0 rfl ?_
    refine go_geti fl_X11_269 dX11_isClashLess_1 sh_0 rfl ?_
    first | (rw [e32]) | (rw [e34]) | skip
    refine go_iconst dX11_isClashLess_4 ?_
    refine go_icmp_eq (tgt := 19) dX11_isClashLess_5 (by decide) (by unfold inR; omega) (by unfold inR; omega) (fun b5 => ?_) (fun b5 => ?_)
    · skip
      omega
    · skip
      refine go_aload_n dX11_isClashLess_8 rfl ?_
      refine go_geti fl_X11_248 dX11_isClashLess_9 sh_0 rfl ?_
      first | (rw [e32]) | (rw [e34]) | skip
      refine go_aload_n dX11_isClashLess_12 rfl ?_
      refine go_geti fl_X11_269 dX11_isClashLess_13 sh_0 rfl ?_
      first | (rw [e32]) | (rw [e34]) | skip
      refine go_icmp_eq (tgt := 44) dX11_isClashLess_16 (by decide) (by unfold inR; omega) (by unfold inR; omega) (fun b16 => ?_) (fun b16 => ?_)
      · skip
        refine go_iconst dX11_isClashLess_44 ?_
        refine go_ist1 dX11_isClashLess_45 (Nat.le_of_ble_eq_true rfl) rfl ?_
        exact loop (xs.length + 1) 0 (by omega) (by omega) (by omega) (fun j hj => absurd hj (by omega))
      · skip
        refine go_aload_n dX11_isClashLess_19 rfl ?_
        refine go_geti fl_X11_269 dX11_isClashLess_20 sh_0 rfl ?_
        first | (rw [e32]) | (rw [e34]) | skip
        refine go_iconst dX11_isClashLess_23 ?_
        refine go_icmp_eq (tgt := 38) dX11_isClashLess_24 (by decide) (by unfold inR; omega) (by unfold inR; omega) (fun b24 => ?_) (fun b24 => ?_)
        · skip
          omega
        · skip
          refine go_aload_n dX11_isClashLess_27 rfl ?_
          refine go_geti fl_X11_248 dX11_isClashLess_28 sh_0 rfl ?_
          first | (rw [e32]) | (rw [e34]) | skip
          refine go_aload_n dX11_isClashLess_31 rfl ?_
          refine go_geti fl_X11_269 dX11_isClashLess_32 sh_0 rfl ?_
          first | (rw [e32]) | (rw [e34]) | skip
          refine go_icmp_ge (tgt := 42) dX11_isClashLess_35 (by decide) (by unfold inR; omega) (by unfold inR; omega) (fun b35 => ?_) (fun b35 => ?_)
          · skip
            refine go_iconst dX11_isClashLess_42 ?_
            refine go_retZ dX11_isClashLess_43 rfl (by omega) ?_
            refine ⟨?_, rfl⟩
            have hx := hlt.trans (bf_len (A := xs) (B := y) (by omega))
            first | (rw [if_pos (hx.mpr (by omega))]; done) | (rw [if_neg (fun z => absurd (hx.mp z) (by omega))]; done)
          · skip
            refine go_iconst dX11_isClashLess_38 ?_
            refine go_goto (tgt := 43) dX11_isClashLess_39 (by decide) ?_
            refine go_retZ dX11_isClashLess_43 rfl (by omega) ?_
            refine ⟨?_, rfl⟩
            have hx := hlt.trans (bf_len (A := xs) (B := y) (by omega))
            first | (rw [if_pos (hx.mpr (by omega))]; done) | (rw [if_neg (fun z => absurd (hx.mp z) (by omega))]; done)
def ccand (β : BT) (a b : List Int) : Option (List Int) := if b.drop a.length = [] then some b else (β (b.drop a.length)).map (fun y => b ++ y)
theorem ev_X11_clashOf {σ : am_St} {L R : List (List Int)} {m a b : Nat} {β : BT} {c : Option (List Int)} (h : tbM σ L R m) (hb : bhA σ (mt_sg R m) β) (hc : clM σ c) (ha : a < R.length) (hbl : b < R.length) (hp : (mt_sg R m).getD a [] <+: (mt_sg R m).getD b []) : am_Ev SH mX11_clashOf 4 [.ref 0, .int (iZ (a : Int)), .int (iZ (b : Int))] σ (am_rV (fun σ2 => (∃ c', clM σ2 c' ∧ (c' = c ∨ ∃ t, ccand β ((mt_sg R m).getD a []) ((mt_sg R m).getD b []) = some t ∧ c' = some t) ∧ (∀ t, ccand β ((mt_sg R m).getD a []) ((mt_sg R m).getD b []) = some t → leO c' t) ∧ ∀ t, leO c t → leO c' t) ∧ fr [32, 34] [19, 20] σ σ2)) := by
  have hS : okS (mt_sg R m) := okS_sg h.2.2.2.2.2.2.2.2 h.2.2.2.2.2.1 m
  have h8 := h.S8
  have l4a := (h.sg a).2
  have l4b := (h.sg b).2
  have okb : okl ((mt_sg R m).getD b []) := (h.sg b).1
  have hle := hp.length_le
  obtain ⟨hbM, ⟨Ls, hI⟩, hfin⟩ := hb
  have hok := okp_mk (S := mt_sg R m) (r := b) (q := ((mt_sg R m).getD a []).length) (by omega) (by omega) hle
  have ept := pt_mk (S := mt_sg R m) (r := b) (q := ((mt_sg R m).getD a []).length) (by omega)
  have lf := ev_X11_leastOf h hok (by omega)
  rw [ept] at lf
  have o0 : fr [32] [] σ (am_si σ 0 32 0) := fr_si (by decide)
  have t0 := h.fr o0 (by decide) (by decide)
  have b0 := hbM.fr o0 (by decide) (by decide)
  have tr0 : trM (am_si σ 0 32 0) [] := ⟨by simp [am_si], fun j hj => absurd hj (by simp), fun c hc => nomatch hc⟩
  generalize hQ : (am_rV (fun σ2 => (∃ c', clM σ2 c' ∧ (c' = c ∨ ∃ t, ccand β ((mt_sg R m).getD a []) ((mt_sg R m).getD b []) = some t ∧ c' = some t) ∧ (∀ t, ccand β ((mt_sg R m).getD a []) ((mt_sg R m).getD b []) = some t → leO c' t) ∧ ∀ t, leO c t → leO c' t) ∧ fr [32, 34] [19, 20] σ σ2)) = Q
  have tail : ∀ (xs : List Int) (n : Nat) (o4 : Option Value) (σ1 : am_St), trM σ1 xs → xs.length ≤ 200 → ccand β ((mt_sg R m).getD a []) ((mt_sg R m).getD b []) = some xs → fr [32] [19] σ σ1 → am_Go SH mX11_clashOf 4 Q 83 [some (.ref 0), some (.int (iZ (a : Int))), some (.int (iZ (b : Int))), some (.int (iZ (n : Int))), o4] [] σ1 := by
    intro xs n o4 σ1 ht hl hcc ho
    have hc1 := hc.fr ho (by decide) (by decide)
    have icl := ev_X11_isClashLess ht hl hc1
    cases hls : lsO xs c with
    | false =>
      rw [hls, if_neg (by decide)] at icl
      refine go_aload_n dX11_clashOf_83 rfl ?_
      refine go_cvP0 (M2 := mX11_isClashLess) dX11_clashOf_84 ml_X11_272 mv_X11_isClashLess sh_0 rfl rfl (Nat.le_of_ble_eq_true rfl) (by decide) (icl) ?_
      refine go_if_eq (tgt := 130) dX11_clashOf_87 (by decide) (by unfold inR; omega) (fun b87 => ?_) (fun b87 => ?_)
      · skip
        subst hQ
        refine go_retV dX11_clashOf_130 rfl ?_
        exact ⟨⟨c, hc1, Or.inl rfl, fun t ht2 => by rw [hcc] at ht2; rw [← Option.some.inj ht2]; exact lsO_not hls, fun t ht2 => ht2⟩, ho.wk (by decide) (by decide)⟩
      · skip
        exact absurd rfl b87
    | true =>
      rw [hls, if_pos rfl] at icl
      have loop : ∀ (m2 : Nat) (i : Nat) (σ3 : am_St), xs.length - i < m2 → i ≤ xs.length → trM σ3 xs → σ3.1 0 34 = (xs.length : Int) → (∀ j : Nat, j < i → σ3.2.2 20 (j : Int) = ln_at xs (j : Int)) → fr [32, 34] [19, 20] σ σ3 → am_Go SH mX11_clashOf 4 Q 101 [some (.ref 0), some (.int (iZ (a : Int))), some (.int (iZ (b : Int))), some (.int (iZ (n : Int))), some (.int (iZ (i : Int)))] [] σ3 := by
        intro m2
        induction m2 with
        | zero => intro i σ3 hm; exact absurd hm (by omega)
        | succ m2 ih =>
          intro i σ3 hm hi ht3 e34 h20 ho3
          have e32 := ht3.1
          by_cases hlt : i < xs.length
          · have a19 := ht3.2.1 i hlt
            have oo : fr [] [20] σ3 (am_sa σ3 20 (i : Int) (ln_at xs (i : Int))) := fr_sa (by decide)
            refine go_iload dX11_clashOf_101 rfl ?_
            refine go_aload_n dX11_clashOf_103 rfl ?_
            refine go_geti fl_X11_248 dX11_clashOf_104 sh_0 rfl ?_
            first | (rw [e32]) | (rw [a19]) | skip
            refine go_icmp_ge (tgt := 130) dX11_clashOf_107 (by decide) (by unfold inR; omega) (by unfold inR; omega) (fun b107 => ?_) (fun b107 => ?_)
            · skip
              omega
            · skip
              refine go_aload_n dX11_clashOf_110 rfl ?_
              refine go_getr fl_X11_68 dX11_clashOf_111 sh_0 rfl ?_
              refine go_iload dX11_clashOf_114 rfl ?_
              refine go_aload_n dX11_clashOf_116 rfl ?_
              refine go_getr fl_X11_65 dX11_clashOf_117 sh_0 rfl ?_
              refine go_iload dX11_clashOf_120 rfl ?_
              refine go_iaload dX11_clashOf_122 (by first | assumption | rfl) (by first | assumption | exact Nat.le_of_ble_eq_true rfl) (by omega) (by omega) ?_
              first | (rw [e32]) | (rw [a19]) | skip
              refine go_iastore dX11_clashOf_123 (by first | assumption | rfl) (by first | assumption | exact Nat.le_of_ble_eq_true rfl) (by omega) (by omega) ?_
              refine go_inc4 dX11_clashOf_124 (Nat.le_of_ble_eq_true rfl) rfl ?_
              refine go_goto (tgt := 101) dX11_clashOf_127 (by decide) ?_
              refine ih (i + 1) _ (by omega) (by omega) (ht3.fr oo (by decide) (by decide)) (by rw [oo.f 34 (by decide)]; exact e34) (fun j hj => ?_) (ho3.tr (oo.wk (by decide) (by decide)))
              by_cases e : j = i
              · subst e; exact am_sa_eq
              · rw [am_sa_ne (by omega)]; exact h20 j (by omega)
          · skip
            refine go_iload dX11_clashOf_101 rfl ?_
            refine go_aload_n dX11_clashOf_103 rfl ?_
            refine go_geti fl_X11_248 dX11_clashOf_104 sh_0 rfl ?_
            first | (rw [e32]) | skip
            refine go_icmp_ge (tgt := 130) dX11_clashOf_107 (by decide) (by unfold inR; omega) (by unfold inR; omega) (fun b107 => ?_) (fun b107 => ?_)
            · skip
              subst hQ
              refine go_retV dX11_clashOf_130 rfl ?_
              exact ⟨⟨some xs, ⟨e34, fun j hj => h20 j (by omega), ht3.2.2, hl⟩, Or.inr ⟨xs, hcc, rfl⟩, fun t ht2 => by rw [hcc] at ht2; rw [← Option.some.inj ht2]; exact ⟨xs, rfl, Nat.le_refl _⟩, fun t ht2 => ⟨xs, rfl, Nat.le_of_lt (lsO_le hls ht2)⟩⟩, ho3⟩
            · skip
              omega
      have e32 := ht.1
      have o34 : fr [34] [] σ1 (am_si σ1 0 34 (xs.length : Int)) := fr_si (by decide)
      refine go_aload_n dX11_clashOf_83 rfl ?_
      refine go_cvP0 (M2 := mX11_isClashLess) dX11_clashOf_84 ml_X11_272 mv_X11_isClashLess sh_0 rfl rfl (Nat.le_of_ble_eq_true rfl) (by decide) (icl) ?_
      refine go_if_eq (tgt := 130) dX11_clashOf_87 (by decide) (by unfold inR; omega) (fun b87 => ?_) (fun b87 => ?_)
      · skip
        exact absurd b87 (by decide)
      · skip
        refine go_aload_n dX11_clashOf_90 rfl ?_
        refine go_aload_n dX11_clashOf_91 rfl ?_
        refine go_geti fl_X11_248 dX11_clashOf_92 sh_0 rfl ?_
        first | (rw [e32]) | skip
        refine go_puti fl_X11_269 dX11_clashOf_95 sh_0 rfl am_fit_int ?_
        refine go_iconst dX11_clashOf_98 ?_
        refine go_ist4 dX11_clashOf_99 (Nat.le_of_ble_eq_true rfl) rfl ?_
        exact loop (xs.length + 1) 0 _ (by omega) (by omega) (ht.fr o34 (by decide) (by decide)) (by simp [am_si]) (fun j hj => absurd hj (by omega)) ((ho.wk (by decide) (by decide)).tr (o34.wk (by decide) (by decide)))
  have letters : ∀ (n : Nat), n < 40 → isL (mt_sg R m) (((mt_sg R m).getD b []).drop ((mt_sg R m).getD a []).length) n → (∀ (o4 : Option Value) (σ1 : am_St), trM σ1 ((mt_sg R m).getD b []) → fr [32] [19] (am_si σ 0 32 0) σ1 → am_Go SH mX11_clashOf 4 Q 70 [some (.ref 0), some (.int (iZ (a : Int))), some (.int (iZ (b : Int))), some (.int (iZ (n : Int))), o4] [] σ1) → ∀ (m2 : Nat) (i : Nat) (σ1 : am_St), ((mt_sg R m).getD b []).length - i < m2 → i ≤ ((mt_sg R m).getD b []).length → trM σ1 (((mt_sg R m).getD b []).take i) → fr [32] [19] (am_si σ 0 32 0) σ1 → am_Go SH mX11_clashOf 4 Q 43 [some (.ref 0), some (.int (iZ (a : Int))), some (.int (iZ (b : Int))), some (.int (iZ (n : Int))), some (.int (iZ (i : Int)))] [] σ1 := by
    intro n hn4 hnl kk m2
    induction m2 with
    | zero => intro i σ1 hm; exact absurd hm (by omega)
    | succ m2 ih =>
      intro i σ1 hm hi ht ho
      have t1 := t0.fr ho (by decide) (by decide)
      by_cases hlt : i < ((mt_sg R m).getD b []).length
      · have hle2 : (((mt_sg R m).getD b []).take i).length = i := by rw [List.length_take, Nat.min_eq_left (by omega)]
        have tl := ev_X11_tryLetter ht (okl_at okb hlt) (by omega)
        rw [← take_snoc hlt] at tl
        refine go_iload dX11_clashOf_43 rfl ?_
        refine go_aload_n dX11_clashOf_45 rfl ?_
        refine go_iload_n dX11_clashOf_46 rfl ?_
        refine go_cvP1 (M2 := mX11_signLength) dX11_clashOf_47 ml_X11_137 mv_X11_signLength sh_0 rfl rfl (Nat.le_of_ble_eq_true rfl) (by decide) (ev_X11_signLength t1 hbl) ?_
        refine go_icmp_ge (tgt := 70) dX11_clashOf_50 (by decide) (by unfold inR; omega) (by unfold inR; omega) (fun b50 => ?_) (fun b50 => ?_)
        · skip
          omega
        · skip
          refine go_aload_n dX11_clashOf_53 rfl ?_
          refine go_aload_n dX11_clashOf_54 rfl ?_
          refine go_iload_n dX11_clashOf_55 rfl ?_
          refine go_iload dX11_clashOf_56 rfl ?_
          refine go_cvP2 (M2 := mX11_signAt) dX11_clashOf_58 ml_X11_140 mv_X11_signAt sh_0 rfl rfl (Nat.le_of_ble_eq_true rfl) (by decide) (ev_X11_signAt t1 hbl hlt) ?_
          refine go_cvV1 (M2 := mX11_tryLetter) dX11_clashOf_61 ml_X11_251 mv_X11_tryLetter sh_0 rfl rfl (Nat.le_of_ble_eq_true rfl) (by decide) (tl) (fun σ4 hq => ?_)
          refine go_inc4 dX11_clashOf_64 (Nat.le_of_ble_eq_true rfl) rfl ?_
          refine go_goto (tgt := 43) dX11_clashOf_67 (by decide) ?_
          exact ih (i + 1) _ (by omega) (by omega) hq.1 (ho.tr hq.2)
      · have e : ((mt_sg R m).getD b []).take i = (mt_sg R m).getD b [] := List.take_of_length_le (by omega)
        rw [e] at ht
        refine go_iload dX11_clashOf_43 rfl ?_
        refine go_aload_n dX11_clashOf_45 rfl ?_
        refine go_iload_n dX11_clashOf_46 rfl ?_
        refine go_cvP1 (M2 := mX11_signLength) dX11_clashOf_47 ml_X11_137 mv_X11_signLength sh_0 rfl rfl (Nat.le_of_ble_eq_true rfl) (by decide) (ev_X11_signLength t1 hbl) ?_
        refine go_icmp_ge (tgt := 70) dX11_clashOf_50 (by decide) (by unfold inR; omega) (by unfold inR; omega) (fun b50 => ?_) (fun b50 => ?_)
        · skip
          exact kk _ _ ht ho
        · skip
          omega
  by_cases hd : ((mt_sg R m).getD b []).drop ((mt_sg R m).getD a []).length = []
  · have hcc : ccand β ((mt_sg R m).getD a []) ((mt_sg R m).getD b []) = some ((mt_sg R m).getD b []) := by unfold ccand; rw [if_pos hd]
    have mid : ∀ (n : Nat), n < 40 → isL (mt_sg R m) (((mt_sg R m).getD b []).drop ((mt_sg R m).getD a []).length) n → ∀ (o4 : Option Value) (σ1 : am_St), trM σ1 ((mt_sg R m).getD b []) → fr [32] [19] (am_si σ 0 32 0) σ1 → am_Go SH mX11_clashOf 4 Q 70 [some (.ref 0), some (.int (iZ (a : Int))), some (.int (iZ (b : Int))), some (.int (iZ (n : Int))), o4] [] σ1 := by
      intro n hn4 hnl o4 σ1 ht ho
      have t1 := t0.fr ho (by decide) (by decide)
      refine go_aload_n dX11_clashOf_70 rfl ?_
      refine go_iload_n dX11_clashOf_71 rfl ?_
      refine go_cvP1 (M2 := mX11_lengthOf) dX11_clashOf_72 ml_X11_207 mv_X11_lengthOf sh_0 rfl rfl (Nat.le_of_ble_eq_true rfl) (by decide) (ev_X11_lengthOf t1 hnl.1) ?_
      rw [hnl.2.1, hd]
      refine go_if_le (tgt := 83) dX11_clashOf_75 (by decide) (by simp only [List.length_nil]; unfold inR; omega) (fun b75 => ?_) (fun b75 => ?_)
      · skip
        exact tail _ n _ _ ht (by omega) hcc ((o0.wk (by decide) (by decide)).tr ho)
      · skip
        exact absurd (by simp) b75
    refine am_ev (by decide) [some (.ref 0), some (.int (iZ ((a : Int)))), some (.int (iZ ((b : Int)))), none, none] rfl (Nat.le_of_ble_eq_true rfl) ?_
    refine go_aload_n dX11_clashOf_0 rfl ?_
    refine go_iconst dX11_clashOf_1 ?_
    refine go_iload_n dX11_clashOf_2 rfl ?_
    refine go_imul dX11_clashOf_3 ?_
    refine go_aload_n dX11_clashOf_4 rfl ?_
    refine go_iload_n dX11_clashOf_5 rfl ?_
    refine go_cvP1 (M2 := mX11_signLength) dX11_clashOf_6 ml_X11_137 mv_X11_signLength sh_0 rfl rfl (Nat.le_of_ble_eq_true rfl) (by decide) (ev_X11_signLength h ha) ?_
    refine go_iadd dX11_clashOf_9 ?_
    rw [show 5 * (b : Int) + (((mt_sg R m).getD a []).length : Int) = ((5 * b + ((mt_sg R m).getD a []).length : Nat) : Int) by omega]
    refine go_cvI1 (M2 := mX11_leastOf) dX11_clashOf_10 ml_X11_219 mv_X11_leastOf sh_0 rfl rfl (Nat.le_of_ble_eq_true rfl) (by decide) (lf) (fun x σ1 hq => ?_)
    obtain ⟨⟨n, rfl, hn4, hnl⟩, rfl⟩ := hq
    refine go_ist3 dX11_clashOf_13 (Nat.le_of_ble_eq_true rfl) rfl ?_
    refine go_aload_n dX11_clashOf_14 rfl ?_
    refine go_iload_n dX11_clashOf_15 rfl ?_
    refine go_cvP1 (M2 := mX11_lengthOf) dX11_clashOf_16 ml_X11_207 mv_X11_lengthOf sh_0 rfl rfl (Nat.le_of_ble_eq_true rfl) (by decide) (ev_X11_lengthOf h hnl.1) ?_
    rw [hnl.2.1, hd]
    refine go_if_le (tgt := 35) dX11_clashOf_19 (by decide) (by simp only [List.length_nil]; unfold inR; omega) (fun b19 => ?_) (fun b19 => ?_)
    · skip
      refine go_aload_n dX11_clashOf_35 rfl ?_
      refine go_iconst dX11_clashOf_36 ?_
      refine go_puti fl_X11_248 dX11_clashOf_37 sh_0 rfl am_fit_int ?_
      refine go_iconst dX11_clashOf_40 ?_
      refine go_ist4 dX11_clashOf_41 (Nat.le_of_ble_eq_true rfl) rfl ?_
      exact letters n hn4 hnl (mid n hn4 hnl) (((mt_sg R m).getD b []).length + 1) 0 _ (by omega) (by omega) tr0 fr.rf
    · skip
      exact absurd (by simp) b19
  · have hdl := List.length_pos_iff.mpr hd
    have hdl2 : (((mt_sg R m).getD b []).drop ((mt_sg R m).getD a []).length).length ≤ 4 := by rw [List.length_drop]; omega
    cases hβ : β (((mt_sg R m).getD b []).drop ((mt_sg R m).getD a []).length) with
    | none =>
      have hcc : ccand β ((mt_sg R m).getD a []) ((mt_sg R m).getD b []) = none := by unfold ccand; rw [if_neg hd, hβ]; rfl
      refine am_ev (by decide) [some (.ref 0), some (.int (iZ ((a : Int)))), some (.int (iZ ((b : Int)))), none, none] rfl (Nat.le_of_ble_eq_true rfl) ?_
      refine go_aload_n dX11_clashOf_0 rfl ?_
      refine go_iconst dX11_clashOf_1 ?_
      refine go_iload_n dX11_clashOf_2 rfl ?_
      refine go_imul dX11_clashOf_3 ?_
      refine go_aload_n dX11_clashOf_4 rfl ?_
      refine go_iload_n dX11_clashOf_5 rfl ?_
      refine go_cvP1 (M2 := mX11_signLength) dX11_clashOf_6 ml_X11_137 mv_X11_signLength sh_0 rfl rfl (Nat.le_of_ble_eq_true rfl) (by decide) (ev_X11_signLength h ha) ?_
      refine go_iadd dX11_clashOf_9 ?_
      rw [show 5 * (b : Int) + (((mt_sg R m).getD a []).length : Int) = ((5 * b + ((mt_sg R m).getD a []).length : Nat) : Int) by omega]
      refine go_cvI1 (M2 := mX11_leastOf) dX11_clashOf_10 ml_X11_219 mv_X11_leastOf sh_0 rfl rfl (Nat.le_of_ble_eq_true rfl) (by decide) (lf) (fun x σ1 hq => ?_)
      obtain ⟨⟨n, rfl, hn4, hnl⟩, rfl⟩ := hq
      have e17 := hbM n hn4 _ hnl hd
      rw [hβ] at e17
      refine go_ist3 dX11_clashOf_13 (Nat.le_of_ble_eq_true rfl) rfl ?_
      refine go_aload_n dX11_clashOf_14 rfl ?_
      refine go_iload_n dX11_clashOf_15 rfl ?_
      refine go_cvP1 (M2 := mX11_lengthOf) dX11_clashOf_16 ml_X11_207 mv_X11_lengthOf sh_0 rfl rfl (Nat.le_of_ble_eq_true rfl) (by decide) (ev_X11_lengthOf h hnl.1) ?_
      rw [hnl.2.1]
      refine go_if_le (tgt := 35) dX11_clashOf_19 (by decide) (by unfold inR; omega) (fun b19 => ?_) (fun b19 => ?_)
      · skip
        omega
      · skip
        refine go_aload_n dX11_clashOf_22 rfl ?_
        refine go_getr fl_X11_59 dX11_clashOf_23 sh_0 rfl ?_
        refine go_iload_n dX11_clashOf_26 rfl ?_
        refine go_iaload dX11_clashOf_27 (by first | assumption | rfl) (by first | assumption | exact Nat.le_of_ble_eq_true rfl) (by omega) (by omega) ?_
        rw [show σ1.2.2 17 (n : Int) = 1000 from e17]
        refine go_sipush dX11_clashOf_28 rfl ?_
        refine go_icmp_ne (tgt := 35) dX11_clashOf_31 (by decide) (by unfold inR; omega) (by unfold inR; omega) (fun b31 => ?_) (fun b31 => ?_)
        · skip
          exact absurd rfl b31
        · skip
          subst hQ
          refine go_retV dX11_clashOf_34 rfl ?_
          exact ⟨⟨c, hc, Or.inl rfl, fun t ht2 => by rw [hcc] at ht2; exact absurd ht2 (by simp), fun t ht2 => ht2⟩, fr.rf⟩
    | some y =>
      have hcc : ccand β ((mt_sg R m).getD a []) ((mt_sg R m).getD b []) = some ((mt_sg R m).getD b [] ++ y) := by unfold ccand; rw [if_neg hd, hβ]; rfl
      have hy := hI.len hβ
      have hyo := ((hI.2.2 _ _ hβ).2.1).ok hS
      have mid : ∀ (n : Nat), n < 40 → isL (mt_sg R m) (((mt_sg R m).getD b []).drop ((mt_sg R m).getD a []).length) n → ∀ (o4 : Option Value) (σ1 : am_St), trM σ1 ((mt_sg R m).getD b []) → fr [32] [19] (am_si σ 0 32 0) σ1 → am_Go SH mX11_clashOf 4 Q 70 [some (.ref 0), some (.int (iZ (a : Int))), some (.int (iZ (b : Int))), some (.int (iZ (n : Int))), o4] [] σ1 := by
        intro n hn4 hnl o4 σ1 ht ho
        have t1 := t0.fr ho (by decide) (by decide)
        have e17 := (b0.fr ho (by decide) (by decide)) n hn4 _ hnl hd
        rw [hβ] at e17
        refine go_aload_n dX11_clashOf_70 rfl ?_
        refine go_iload_n dX11_clashOf_71 rfl ?_
        refine go_cvP1 (M2 := mX11_lengthOf) dX11_clashOf_72 ml_X11_207 mv_X11_lengthOf sh_0 rfl rfl (Nat.le_of_ble_eq_true rfl) (by decide) (ev_X11_lengthOf t1 hnl.1) ?_
        rw [hnl.2.1]
        refine go_if_le (tgt := 83) dX11_clashOf_75 (by decide) (by unfold inR; omega) (fun b75 => ?_) (fun b75 => ?_)
        · skip
          omega
        · skip
          refine go_aload_n dX11_clashOf_78 rfl ?_
          refine go_iload_n dX11_clashOf_79 rfl ?_
          refine go_cvV1 (M2 := mX11_tryBehind) dX11_clashOf_80 ml_X11_257 mv_X11_tryBehind sh_0 rfl rfl (Nat.le_of_ble_eq_true rfl) (by decide) (ev_X11_tryBehind ht hn4 e17 hyo (by omega)) (fun σ3 hq3 => ?_)
          exact tail _ n _ _ hq3.1 (by rw [List.length_append]; omega) hcc ((o0.wk (by decide) (by decide)).tr (ho.tr hq3.2))
      refine am_ev (by decide) [some (.ref 0), some (.int (iZ ((a : Int)))), some (.int (iZ ((b : Int)))), none, none] rfl (Nat.le_of_ble_eq_true rfl) ?_
      refine go_aload_n dX11_clashOf_0 rfl ?_
      refine go_iconst dX11_clashOf_1 ?_
      refine go_iload_n dX11_clashOf_2 rfl ?_
      refine go_imul dX11_clashOf_3 ?_
      refine go_aload_n dX11_clashOf_4 rfl ?_
      refine go_iload_n dX11_clashOf_5 rfl ?_
      refine go_cvP1 (M2 := mX11_signLength) dX11_clashOf_6 ml_X11_137 mv_X11_signLength sh_0 rfl rfl (Nat.le_of_ble_eq_true rfl) (by decide) (ev_X11_signLength h ha) ?_
      refine go_iadd dX11_clashOf_9 ?_
      rw [show 5 * (b : Int) + (((mt_sg R m).getD a []).length : Int) = ((5 * b + ((mt_sg R m).getD a []).length : Nat) : Int) by omega]
      refine go_cvI1 (M2 := mX11_leastOf) dX11_clashOf_10 ml_X11_219 mv_X11_leastOf sh_0 rfl rfl (Nat.le_of_ble_eq_true rfl) (by decide) (lf) (fun x σ1 hq => ?_)
      obtain ⟨⟨n, rfl, hn4, hnl⟩, rfl⟩ := hq
      have e17 := hbM n hn4 _ hnl hd
      rw [hβ] at e17
      refine go_ist3 dX11_clashOf_13 (Nat.le_of_ble_eq_true rfl) rfl ?_
      refine go_aload_n dX11_clashOf_14 rfl ?_
      refine go_iload_n dX11_clashOf_15 rfl ?_
      refine go_cvP1 (M2 := mX11_lengthOf) dX11_clashOf_16 ml_X11_207 mv_X11_lengthOf sh_0 rfl rfl (Nat.le_of_ble_eq_true rfl) (by decide) (ev_X11_lengthOf h hnl.1) ?_
      rw [hnl.2.1]
      refine go_if_le (tgt := 35) dX11_clashOf_19 (by decide) (by unfold inR; omega) (fun b19 => ?_) (fun b19 => ?_)
      · skip
        omega
      · skip
        refine go_aload_n dX11_clashOf_22 rfl ?_
        refine go_getr fl_X11_59 dX11_clashOf_23 sh_0 rfl ?_
        refine go_iload_n dX11_clashOf_26 rfl ?_
        refine go_iaload dX11_clashOf_27 (by first | assumption | rfl) (by first | assumption | exact Nat.le_of_ble_eq_true rfl) (by omega) (by omega) ?_
        rw [show σ1.2.2 17 (n : Int) = (y.length : Int) from e17.1]
        refine go_sipush dX11_clashOf_28 rfl ?_
        refine go_icmp_ne (tgt := 35) dX11_clashOf_31 (by decide) (by unfold inR; omega) (by unfold inR; omega) (fun b31 => ?_) (fun b31 => ?_)
        · skip
          refine go_aload_n dX11_clashOf_35 rfl ?_
          refine go_iconst dX11_clashOf_36 ?_
          refine go_puti fl_X11_248 dX11_clashOf_37 sh_0 rfl am_fit_int ?_
          refine go_iconst dX11_clashOf_40 ?_
          refine go_ist4 dX11_clashOf_41 (Nat.le_of_ble_eq_true rfl) rfl ?_
          exact letters n hn4 hnl (mid n hn4 hnl) (((mt_sg R m).getD b []).length + 1) 0 _ (by omega) (by omega) tr0 fr.rf
        · skip
          omega
/-- of the texts of all pairs the least one is the clash -/
theorem cl_fin {S : List (List Int)} (hS : okS S) {β : BT} {c : Option (List Int)} {Ls : List (List Int)} (hI : bI S β Ls) (hfin : ∀ v, VP S v → ∀ x, Be S v x → leO (β v) x) (h1 : ∀ t, c = some t → Cd S t) (h2 : ∀ (i j : Nat), i ≠ j → i < S.length → j < S.length → S.getD i [] <+: S.getD j [] → ∀ t, ccand β (S.getD i []) (S.getD j []) = some t → leO c t) : mt_cl S = c := by
  have key : ∀ T, Cd S T → leO c T := by
    rintro T ⟨i, j, a, b, hij, ha, hb, hp, hT⟩
    have hi := (List.getElem?_eq_some_iff.mp ha).1
    have hj := (List.getElem?_eq_some_iff.mp hb).1
    have ea : S.getD i [] = a := by simp [List.getD, ha]
    have eb : S.getD j [] = b := by simp [List.getD, hb]
    have q := h2 i j hij hi hj (by rw [ea, eb]; exact hp)
    rw [ea, eb] at q
    rcases hT with ⟨hd, rfl⟩ | ⟨x, hx, rfl⟩
    · exact q _ (by unfold ccand; rw [if_pos hd])
    · have hne := hx.ne
      obtain ⟨y, hy, hyx⟩ := hfin _ (VP.sg hS (List.mem_of_getElem? hb) hne) x hx
      obtain ⟨u, hu, huy⟩ := q (b ++ y) (by unfold ccand; rw [if_neg hne, hy]; rfl)
      have := (encN_prele (w := b) ((hI.2.2 _ _ hy).2.1.ok hS) (hx.ok hS)).mpr hyx
      exact ⟨u, hu, by omega⟩
  cases c with
  | some t =>
    refine mt_cl_some hS ⟨(h1 t rfl).pa, fun t' ht' => ?_⟩
    obtain ⟨u, hu, hut⟩ := key t' ht'.cd
    rw [Option.some.inj hu]
    exact hut
  | none =>
    refine mt_cl_none (fun hr => ?_)
    obtain ⟨t, ht⟩ := hr.pa
    obtain ⟨u, hu, _⟩ := key t ht.cd
    exact nomatch hu
/-- the clash is laid -/
def clA (σ : am_St) (S : List (List Int)) : Prop := clM σ (mt_cl S) ∧ wkM σ (mt_clT S) ∧ spM σ S (mt_clT S) 0
def CKF : List Nat := [21, 32, 34]
def CKA : List Nat := [12, 13, 14, 17, 18, 19, 20]
theorem ev_X11_layClash {σ : am_St} {L R : List (List Int)} {m : Nat} (h : tbM σ L R m) : am_Ev SH mX11_layClash 7 [.ref 0] σ (am_rV (fun σ2 => clA σ2 (mt_sg R m) ∧ fr CKF CKA σ σ2)) := by
  have hS : okS (mt_sg R m) := okS_sg h.2.2.2.2.2.2.2.2 h.2.2.2.2.2.1 m
  have h8 := h.S8
  generalize hQ : (am_rV (fun σ2 => clA σ2 (mt_sg R m) ∧ fr CKF CKA σ σ2)) = Q
  have copy : ∀ (T : List Int) (o2 : Option Value), T = mt_clT (mt_sg R m) → okl T → T.length ≤ 200 → ∀ (m2 : Nat) (i : Nat) (σ1 : am_St), T.length - i < m2 → i ≤ T.length → fr CKF CKA σ σ1 → clM σ1 (mt_cl (mt_sg R m)) → arA σ1 20 T → σ1.1 0 21 = (T.length : Int) → (∀ j : Nat, j < i → σ1.2.2 12 (j : Int) = ln_at T (j : Int)) → am_Go SH mX11_layClash 7 Q 83 [some (.ref 0), some (.int (iZ (i : Int))), o2] [] σ1 := by
    intro T o2 hT hTo hTl m2
    induction m2 with
    | zero => intro i σ1 hm; exact absurd hm (by omega)
    | succ m2 ih =>
      intro i σ1 hm hi ho hc1 h20 h21 h12
      by_cases hlt : i < T.length
      · have a20 := h20 i hlt
        have oo : fr [] [12] σ1 (am_sa σ1 12 (i : Int) (ln_at T (i : Int))) := fr_sa (by decide)
        refine go_iload_n dX11_layClash_83 rfl ?_
        refine go_aload_n dX11_layClash_84 rfl ?_
        refine go_geti fl_X11_167 dX11_layClash_85 sh_0 rfl ?_
        first | (rw [h21]) | (rw [a20]) | skip
        refine go_icmp_ge (tgt := 109) dX11_layClash_88 (by decide) (by unfold inR; omega) (by unfold inR; omega) (fun b88 => ?_) (fun b88 => ?_)
        · skip
          omega
        · skip
          refine go_aload_n dX11_layClash_91 rfl ?_
          refine go_getr fl_X11_43 dX11_layClash_92 sh_0 rfl ?_
          refine go_iload_n dX11_layClash_95 rfl ?_
          refine go_aload_n dX11_layClash_96 rfl ?_
          refine go_getr fl_X11_68 dX11_layClash_97 sh_0 rfl ?_
          refine go_iload_n dX11_layClash_100 rfl ?_
          refine go_iaload dX11_layClash_101 (by first | assumption | rfl) (by first | assumption | exact Nat.le_of_ble_eq_true rfl) (by omega) (by omega) ?_
          first | (rw [h21]) | (rw [a20]) | skip
          refine go_iastore dX11_layClash_102 (by first | assumption | rfl) (by first | assumption | exact Nat.le_of_ble_eq_true rfl) (by omega) (by omega) ?_
          refine go_inc1 dX11_layClash_103 (Nat.le_of_ble_eq_true rfl) rfl ?_
          refine go_goto (tgt := 83) dX11_layClash_106 (by decide) ?_
          refine ih (i + 1) _ (by omega) (by omega) (ho.tr (oo.wk (by decide) (by decide))) (hc1.fr oo (by decide) (by decide)) (h20.fr oo (by decide)) (by rw [oo.f 21 (by decide)]; exact h21) (fun j hj => ?_)
          by_cases e : j = i
          · subst e; exact am_sa_eq
          · rw [am_sa_ne (by omega)]; exact h12 j (by omega)
      · have hw : wkM σ1 T := ⟨h21, fun j hj => h12 j (by omega), hTo, hTl⟩
        have t1 := h.fr ho (by decide) (by decide)
        refine go_iload_n dX11_layClash_83 rfl ?_
        refine go_aload_n dX11_layClash_84 rfl ?_
        refine go_geti fl_X11_167 dX11_layClash_85 sh_0 rfl ?_
        first | (rw [h21]) | skip
        refine go_icmp_ge (tgt := 109) dX11_layClash_88 (by decide) (by unfold inR; omega) (by unfold inR; omega) (fun b88 => ?_) (fun b88 => ?_)
        · skip
          refine go_aload_n dX11_layClash_109 rfl ?_
          refine go_cvV0 (M2 := mX11_layWays) dX11_layClash_110 ml_X11_195 mv_X11_layWays sh_0 rfl rfl (Nat.le_of_ble_eq_true rfl) (by decide) (ev_X11_layWays t1 hw) (fun σ4 hq => ?_)
          subst hQ
          refine go_retV dX11_layClash_113 rfl ?_
          refine ⟨⟨hc1.fr hq.2 (by decide) (by decide), ?_, ?_⟩, ho.tr (hq.2.wk (by decide) (by decide))⟩
          · rw [← hT]; exact hw.fr hq.2 (by decide) (by decide)
          · rw [← hT]; exact hq.1
        · skip
          omega
  have exitA : ∀ (c : Option (List Int)) (o1 o2 : Option Value) (σ1 : am_St), mt_cl (mt_sg R m) = c → fr CKF CKA σ σ1 → clM σ1 c → am_Go SH mX11_layClash 7 Q 61 [some (.ref 0), o1, o2] [] σ1 := by
    intro c o1 o2 σ1 hcl ho hc1
    cases c with
    | none =>
      have e34 : σ1.1 0 34 = -1 := hc1
      have hT : ([] : List Int) = mt_clT (mt_sg R m) := by unfold mt_clT; rw [hcl]; rfl
      have o21 : fr [21] [] σ1 (am_si σ1 0 21 0) := fr_si (by decide)
      refine go_aload_n dX11_layClash_61 rfl ?_
      refine go_aload_n dX11_layClash_62 rfl ?_
      refine go_geti fl_X11_269 dX11_layClash_63 sh_0 rfl ?_
      first | (rw [e34]) | skip
      refine go_iconst dX11_layClash_66 ?_
      refine go_icmp_ne (tgt := 74) dX11_layClash_67 (by decide) (by unfold inR; omega) (by unfold inR; omega) (fun b67 => ?_) (fun b67 => ?_)
      · skip
        exact absurd rfl b67
      · skip
        refine go_iconst dX11_layClash_70 ?_
        refine go_goto (tgt := 78) dX11_layClash_71 (by decide) ?_
        refine go_puti fl_X11_167 dX11_layClash_78 sh_0 rfl am_fit_int ?_
        refine go_iconst dX11_layClash_81 ?_
        refine go_ist1 dX11_layClash_82 (Nat.le_of_ble_eq_true rfl) rfl ?_
        exact copy [] _ hT (fun c hc => nomatch hc) (by simp) 1 0 _ (by simp) (by simp) (ho.tr (o21.wk (by decide) (by decide))) (by rw [hcl]; exact hc1.fr o21 (by decide) (by decide)) (fun j hj => absurd hj (by simp)) (by simp [am_si]) (fun j hj => absurd hj (by omega))
    | some t =>
      obtain ⟨e34, h20, hto, htl⟩ := hc1
      have hT : t = mt_clT (mt_sg R m) := by unfold mt_clT; rw [hcl]; rfl
      have o21 : fr [21] [] σ1 (am_si σ1 0 21 (t.length : Int)) := fr_si (by decide)
      refine go_aload_n dX11_layClash_61 rfl ?_
      refine go_aload_n dX11_layClash_62 rfl ?_
      refine go_geti fl_X11_269 dX11_layClash_63 sh_0 rfl ?_
      first | (rw [e34]) | skip
      refine go_iconst dX11_layClash_66 ?_
      refine go_icmp_ne (tgt := 74) dX11_layClash_67 (by decide) (by unfold inR; omega) (by unfold inR; omega) (fun b67 => ?_) (fun b67 => ?_)
      · skip
        refine go_aload_n dX11_layClash_74 rfl ?_
        refine go_geti fl_X11_269 dX11_layClash_75 sh_0 rfl ?_
        first | (rw [e34]) | skip
        refine go_puti fl_X11_167 dX11_layClash_78 sh_0 rfl am_fit_int ?_
        refine go_iconst dX11_layClash_81 ?_
        refine go_ist1 dX11_layClash_82 (Nat.le_of_ble_eq_true rfl) rfl ?_
        exact copy t _ hT hto htl (t.length + 1) 0 _ (by omega) (by omega) (ho.tr (o21.wk (by decide) (by decide))) (by rw [hcl]; exact clM.fr (c := some t) ⟨e34, h20, hto, htl⟩ o21 (by decide) (by decide)) (h20.fr o21 (by decide)) (by simp [am_si]) (fun j hj => absurd hj (by omega))
      · skip
        omega
  have loopA : ∀ (β : BT) (m2 : Nat) (a : Nat) (c : Option (List Int)) (o2 : Option Value) (σ1 : am_St), R.length - a < m2 → a ≤ R.length → fr CKF CKA σ σ1 → bhA σ1 (mt_sg R m) β → clM σ1 c → (∀ t, c = some t → Cd (mt_sg R m) t) → (∀ (i j : Nat), i ≠ j → i < a → j < R.length → (mt_sg R m).getD i [] <+: (mt_sg R m).getD j [] → ∀ t, ccand β ((mt_sg R m).getD i []) ((mt_sg R m).getD j []) = some t → leO c t) → am_Go SH mX11_layClash 7 Q 11 [some (.ref 0), some (.int (iZ (a : Int))), o2] [] σ1 := by
    intro β m2
    induction m2 with
    | zero => intro a c o2 σ1 hm; exact absurd hm (by omega)
    | succ m2 ih =>
      intro a c o2 σ1 hm ha2 ho hbA hc1 hcd hd
      have t1 := h.fr ho (by decide) (by decide)
      by_cases hlt : a < R.length
      · have loopB : ∀ (m3 : Nat) (b : Nat) (c3 : Option (List Int)) (σ3 : am_St), R.length - b < m3 → b ≤ R.length → fr CKF CKA σ σ3 → bhA σ3 (mt_sg R m) β → clM σ3 c3 → (∀ t, c3 = some t → Cd (mt_sg R m) t) → (∀ t, leO c t → leO c3 t) → (∀ (j : Nat), a ≠ j → j < b → (mt_sg R m).getD a [] <+: (mt_sg R m).getD j [] → ∀ t, ccand β ((mt_sg R m).getD a []) ((mt_sg R m).getD j []) = some t → leO c3 t) → am_Go SH mX11_layClash 7 Q 21 [some (.ref 0), some (.int (iZ (a : Int))), some (.int (iZ (b : Int)))] [] σ3 := by
          intro m3
          induction m3 with
          | zero => intro b c3 σ3 hm3; exact absurd hm3 (by omega)
          | succ m3 ih3 =>
            intro b c3 σ3 hm3 hb ho3 hbA3 hc3 hcd3 hsub hd3
            have t3 := h.fr ho3 (by decide) (by decide)
            by_cases hltb : b < R.length
            · by_cases heq : a = b
              · skip
                refine go_iload_n dX11_layClash_21 rfl ?_
                refine go_aload_n dX11_layClash_22 rfl ?_
                refine go_geti fl_X11_109 dX11_layClash_23 sh_0 rfl ?_
                first | (rw [t3.1]) | skip
                refine go_icmp_ge (tgt := 55) dX11_layClash_26 (by decide) (by unfold inR; omega) (by unfold inR; omega) (fun b26 => ?_) (fun b26 => ?_)
                · skip
                  omega
                · skip
                  refine go_iload_n dX11_layClash_29 rfl ?_
                  refine go_iload_n dX11_layClash_30 rfl ?_
                  refine go_icmp_eq (tgt := 49) dX11_layClash_31 (by decide) (by unfold inR; omega) (by unfold inR; omega) (fun b31 => ?_) (fun b31 => ?_)
                  · skip
                    refine go_inc2 dX11_layClash_49 (Nat.le_of_ble_eq_true rfl) rfl ?_
                    refine go_goto (tgt := 21) dX11_layClash_52 (by decide) ?_
                    exact ih3 (b + 1) c3 _ (by omega) (by omega) ho3 hbA3 hc3 hcd3 hsub (fun j hj hjb => hd3 j hj (by omega))
                  · skip
                    omega
              · by_cases hbg : (mt_sg R m).getD a [] <+: (mt_sg R m).getD b []
                · skip
                  refine go_iload_n dX11_layClash_21 rfl ?_
                  refine go_aload_n dX11_layClash_22 rfl ?_
                  refine go_geti fl_X11_109 dX11_layClash_23 sh_0 rfl ?_
                  first | (rw [t3.1]) | skip
                  refine go_icmp_ge (tgt := 55) dX11_layClash_26 (by decide) (by unfold inR; omega) (by unfold inR; omega) (fun b26 => ?_) (fun b26 => ?_)
                  · skip
                    omega
                  · skip
                    refine go_iload_n dX11_layClash_29 rfl ?_
                    refine go_iload_n dX11_layClash_30 rfl ?_
                    refine go_icmp_eq (tgt := 49) dX11_layClash_31 (by decide) (by unfold inR; omega) (by unfold inR; omega) (fun b31 => ?_) (fun b31 => ?_)
                    · skip
                      omega
                    · skip
                      refine go_aload_n dX11_layClash_34 rfl ?_
                      refine go_iload_n dX11_layClash_35 rfl ?_
                      refine go_iload_n dX11_layClash_36 rfl ?_
                      refine go_cvP2 (M2 := mX11_begins) dX11_layClash_37 ml_X11_157 mv_X11_begins sh_0 rfl rfl (Nat.le_of_ble_eq_true rfl) (by decide) (ev_X11_begins t3 hlt hltb) ?_
                      rw [if_pos hbg]
                      refine go_if_eq (tgt := 49) dX11_layClash_40 (by decide) (by unfold inR; omega) (fun b40 => ?_) (fun b40 => ?_)
                      · skip
                        exact absurd b40 (by decide)
                      · skip
                        refine go_aload_n dX11_layClash_43 rfl ?_
                        refine go_iload_n dX11_layClash_44 rfl ?_
                        refine go_iload_n dX11_layClash_45 rfl ?_
                        refine go_cvV2 (M2 := mX11_clashOf) dX11_layClash_46 ml_X11_278 mv_X11_clashOf sh_0 rfl rfl (Nat.le_of_ble_eq_true rfl) (by decide) (ev_X11_clashOf t3 hbA3 hc3 hlt hltb hbg) (fun σ4 hq => ?_)
                        obtain ⟨⟨c4, g1, g2, g3, g4⟩, g5⟩ := hq
                        refine go_inc2 dX11_layClash_49 (Nat.le_of_ble_eq_true rfl) rfl ?_
                        refine go_goto (tgt := 21) dX11_layClash_52 (by decide) ?_
                        refine ih3 (b + 1) c4 _ (by omega) (by omega) (ho3.tr (g5.wk (by decide) (by decide))) (hbA3.fr g5 (by decide) (by decide)) g1 (fun t ht => ?_) (fun t ht => g4 t (hsub t ht)) (fun j hj hjb hjp => ?_)
                        · rcases g2 with z | ⟨t', hct, z⟩
                          · exact hcd3 t (by rw [← z]; exact ht)
                          · rw [z] at ht
                            rw [← Option.some.inj ht]
                            refine ⟨a, b, _, _, heq, by rw [getD_in (by omega)]; exact List.getElem?_eq_getElem _, by rw [getD_in (by omega)]; exact List.getElem?_eq_getElem _, hbg, ?_⟩
                            unfold ccand at hct
                            by_cases hdd : ((mt_sg R m).getD b []).drop ((mt_sg R m).getD a []).length = []
                            · rw [if_pos hdd] at hct
                              exact Or.inl ⟨hdd, (Option.some.inj hct).symm⟩
                            · rw [if_neg hdd, Option.map_eq_some_iff] at hct
                              obtain ⟨y, hy, hyt⟩ := hct
                              obtain ⟨_, ⟨Ls, hI⟩, _⟩ := hbA3
                              exact Or.inr ⟨y, (hI.2.2 _ _ hy).2.1, hyt.symm⟩
                        · by_cases e : j = b
                          · subst e; exact g3
                          · exact fun t ht => g4 t (hd3 j hj (by omega) hjp t ht)
                · skip
                  refine go_iload_n dX11_layClash_21 rfl ?_
                  refine go_aload_n dX11_layClash_22 rfl ?_
                  refine go_geti fl_X11_109 dX11_layClash_23 sh_0 rfl ?_
                  first | (rw [t3.1]) | skip
                  refine go_icmp_ge (tgt := 55) dX11_layClash_26 (by decide) (by unfold inR; omega) (by unfold inR; omega) (fun b26 => ?_) (fun b26 => ?_)
                  · skip
                    omega
                  · skip
                    refine go_iload_n dX11_layClash_29 rfl ?_
                    refine go_iload_n dX11_layClash_30 rfl ?_
                    refine go_icmp_eq (tgt := 49) dX11_layClash_31 (by decide) (by unfold inR; omega) (by unfold inR; omega) (fun b31 => ?_) (fun b31 => ?_)
                    · skip
                      omega
                    · skip
                      refine go_aload_n dX11_layClash_34 rfl ?_
                      refine go_iload_n dX11_layClash_35 rfl ?_
                      refine go_iload_n dX11_layClash_36 rfl ?_
                      refine go_cvP2 (M2 := mX11_begins) dX11_layClash_37 ml_X11_157 mv_X11_begins sh_0 rfl rfl (Nat.le_of_ble_eq_true rfl) (by decide) (ev_X11_begins t3 hlt hltb) ?_
                      rw [if_neg hbg]
                      refine go_if_eq (tgt := 49) dX11_layClash_40 (by decide) (by unfold inR; omega) (fun b40 => ?_) (fun b40 => ?_)
                      · skip
                        refine go_inc2 dX11_layClash_49 (Nat.le_of_ble_eq_true rfl) rfl ?_
                        refine go_goto (tgt := 21) dX11_layClash_52 (by decide) ?_
                        refine ih3 (b + 1) c3 _ (by omega) (by omega) ho3 hbA3 hc3 hcd3 hsub (fun j hj hjb hjp => ?_)
                        by_cases e : j = b
                        · subst e; exact absurd hjp hbg
                        · exact hd3 j hj (by omega) hjp
                      · skip
                        exact absurd rfl b40
            · skip
              refine go_iload_n dX11_layClash_21 rfl ?_
              refine go_aload_n dX11_layClash_22 rfl ?_
              refine go_geti fl_X11_109 dX11_layClash_23 sh_0 rfl ?_
              first | (rw [t3.1]) | skip
              refine go_icmp_ge (tgt := 55) dX11_layClash_26 (by decide) (by unfold inR; omega) (by unfold inR; omega) (fun b26 => ?_) (fun b26 => ?_)
              · skip
                refine go_inc1 dX11_layClash_55 (Nat.le_of_ble_eq_true rfl) rfl ?_
                refine go_goto (tgt := 11) dX11_layClash_58 (by decide) ?_
                refine ih (a + 1) c3 _ _ (by omega) (by omega) ho3 hbA3 hc3 hcd3 (fun i j hij hi hj hp t ht => ?_)
                by_cases e : i = a
                · subst e; exact hd3 j hij (by omega) hp t ht
                · exact hsub t (hd i j hij (by omega) hj hp t ht)
              · skip
                omega
        refine go_iload_n dX11_layClash_11 rfl ?_
        refine go_aload_n dX11_layClash_12 rfl ?_
        refine go_geti fl_X11_109 dX11_layClash_13 sh_0 rfl ?_
        first | (rw [t1.1]) | skip
        refine go_icmp_ge (tgt := 61) dX11_layClash_16 (by decide) (by unfold inR; omega) (by unfold inR; omega) (fun b16 => ?_) (fun b16 => ?_)
        · skip
          omega
        · skip
          refine go_iconst dX11_layClash_19 ?_
          refine go_ist2 dX11_layClash_20 (Nat.le_of_ble_eq_true rfl) rfl ?_
          exact loopB (R.length + 1) 0 c _ (by omega) (by omega) ho hbA hc1 hcd (fun t ht => ht) (fun j _ hj => absurd hj (by omega))
      · have hcl : mt_cl (mt_sg R m) = c := by
          obtain ⟨_, ⟨Ls, hI⟩, hfin⟩ := hbA
          exact cl_fin hS hI hfin hcd (fun i j hij hi hj => hd i j hij (by omega) (by omega))
        refine go_iload_n dX11_layClash_11 rfl ?_
        refine go_aload_n dX11_layClash_12 rfl ?_
        refine go_geti fl_X11_109 dX11_layClash_13 sh_0 rfl ?_
        first | (rw [t1.1]) | skip
        refine go_icmp_ge (tgt := 61) dX11_layClash_16 (by decide) (by unfold inR; omega) (by unfold inR; omega) (fun b16 => ?_) (fun b16 => ?_)
        · skip
          exact exitA c _ _ _ hcl ho hc1
        · skip
          omega
  refine am_ev (by decide) [some (.ref 0), none, none] rfl (Nat.le_of_ble_eq_true rfl) ?_
  refine go_aload_n dX11_layClash_0 rfl ?_
  refine go_cvV0 (M2 := mX11_layBehind) dX11_layClash_1 ml_X11_275 mv_X11_layBehind sh_0 rfl rfl (Nat.le_of_ble_eq_true rfl) (by decide) (ev_X11_layBehind h) (fun σ1 hq => ?_)
  obtain ⟨⟨β, hbA⟩, ho⟩ := hq
  refine go_aload_n dX11_layClash_4 rfl ?_
  refine go_iconst dX11_layClash_5 ?_
  refine go_puti fl_X11_269 dX11_layClash_6 sh_0 rfl am_fit_int ?_
  refine go_iconst dX11_layClash_9 ?_
  refine go_ist1 dX11_layClash_10 (Nat.le_of_ble_eq_true rfl) rfl ?_
  have o34 : fr [34] [] σ1 (am_si σ1 0 34 (-1)) := fr_si (by decide)
  exact loopA β (R.length + 1) 0 none _ _ (by omega) (by omega) ((ho.wk (by decide) (by decide)).tr (o34.wk (by decide) (by decide))) (hbA.fr o34 (by decide) (by decide)) (by show (am_si σ1 0 34 (-1)).1 0 34 = -1; simp [am_si]) (fun t ht => nomatch ht) (fun i j _ hi => absurd hi (by omega))

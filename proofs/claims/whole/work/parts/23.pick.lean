/-! ===== Spellings: weigh, total, pick ===== -/
theorem ev_X7_weigh {σ : am_St} {k ks n kl nl : Nat} {xs : List Int} {S : List (List Int)} (hk : isSp k) (h : hold σ ks n (S.map enc)) (g : hold σ kl nl xs) (hS : okw S) (hS1 : S.length < 1000) (hx : xs.length ≤ 56) (hn : nl < 1000000) (d1 : ks ≠ k ∧ ks ≠ k + 1 ∧ ks ≠ k + 2 ∧ ks + 1 ≠ k ∧ ks + 1 ≠ k + 2) (d2 : kl ≠ k ∧ kl ≠ k + 1 ∧ kl ≠ k + 2 ∧ kl + 1 ≠ k ∧ kl + 1 ≠ k + 2) : am_Ev SH mX7_weigh 3 [.ref k, .ref ks, .ref kl] σ (am_rV (fun σ2 => spl σ2 k S xs 0 ∧ am_off [k, k + 1, k + 2] σ σ2)) := by
  obtain ⟨s1, s2, s3⟩ := hk
  have hkl := g.1
  have loop : ∀ (m : Nat) (p : Int) (σ1 : am_St), p < m → -1 ≤ p → p < xs.length → spl σ1 k S xs (p + 1) → am_off [k, k + 1, k + 2] σ σ1 → am_Go SH mX7_weigh 3 (am_rV (fun σ2 => spl σ2 k S xs 0 ∧ am_off [k, k + 1, k + 2] σ σ2)) 40 [some (.ref k), some (.ref ks), some (.ref kl), some (.int (iZ p))] [] σ1 := by
    intro m
    induction m with
    | zero =>
      intro p σ1 hm h0 h1 hw ho
      refine go_iload_n dX7_weigh_40 rfl ?_
      refine go_if_lt (tgt := 57) dX7_weigh_41 (by decide) (by unfold inR; omega) (fun b41 => ?_) (fun b41 => ?_)
      · skip
        refine go_retV dX7_weigh_57 rfl ?_
        exact ⟨⟨hw.1, fun j hj => hw.2 j (by omega)⟩, ho⟩
      · skip
        omega
    | succ m ih =>
      intro p σ1 hm h0 h1 hw ho
      have h' := h.off ho (by simp; omega) (by simp; omega)
      have g' := g.off ho (by simp; omega) (by simp; omega)
      refine go_iload_n dX7_weigh_40 rfl ?_
      refine go_if_lt (tgt := 57) dX7_weigh_41 (by decide) (by unfold inR; omega) (fun b41 => ?_) (fun b41 => ?_)
      · skip
        refine go_retV dX7_weigh_57 rfl ?_
        exact ⟨⟨hw.1, fun j hj => hw.2 j (by omega)⟩, ho⟩
      · skip
        refine go_aload_n dX7_weigh_44 rfl ?_
        refine go_aload_n dX7_weigh_45 rfl ?_
        refine go_aload_n dX7_weigh_46 rfl ?_
        refine go_iload_n dX7_weigh_47 rfl ?_
        refine go_cvV3 (M2 := mX7_weighPlace) dX7_weigh_48 ml_X7_34 mv_X7_weighPlace (by first | assumption | exact sh_40 | exact sh_106) rfl rfl (Nat.le_of_ble_eq_true rfl) (by decide) (ev_X7_weighPlace ⟨s1, s2, s3⟩ h' g' hS hS1 hx hn (by omega) h1 hw (by omega) (by omega)) (fun σ2 hq => ?_)
        refine go_inc3 dX7_weigh_51 (Nat.le_of_ble_eq_true rfl) rfl ?_
        refine go_goto (tgt := 40) dX7_weigh_54 (by decide) ?_
        exact ih (p + -1) σ2 (by omega) (by omega) (by omega) (by rw [show p + -1 + 1 = p by omega]; exact hq.1) (ho.tr (hq.2.wk (by simp)))
  refine am_ev (by decide) [some (.ref k), some (.ref ks), some (.ref kl), none] rfl (Nat.le_of_ble_eq_true rfl) ?_
  refine go_aload_n dX7_weigh_0 rfl ?_
  refine go_aload_n dX7_weigh_1 rfl ?_
  refine go_cvP0 (M2 := mX1_size) dX7_weigh_2 ml_X7_22 mv_X1_size (by assumption) rfl rfl (Nat.le_of_ble_eq_true rfl) (by decide) (ev_X1_size g) ?_
  refine go_bipush dX7_weigh_5 rfl ?_
  refine go_csP2 (M2 := mJ9_min_7cf53) dX7_weigh_7 ml_X7_28 ms_J9_min_7cf53 (Nat.le_of_ble_eq_true rfl) (by decide) (ev_J9_min (by unfold inR; omega) (by unfold inR; omega)) ?_
  rw [show min (xs.length : Int) 56 = (xs.length : Int) by omega]
  refine go_puti fl_X7_18 dX7_weigh_10 (by first | assumption | exact sh_40 | exact sh_106) rfl am_fit_int ?_
  refine go_aload_n dX7_weigh_13 rfl ?_
  refine go_getr fl_X7_9 dX7_weigh_14 (by first | assumption | exact sh_40 | exact sh_106) rfl ?_
  refine go_aload_n dX7_weigh_17 rfl ?_
  refine go_geti fl_X7_18 dX7_weigh_18 (by first | assumption | exact sh_40 | exact sh_106) rfl ?_
  rw [show (am_si σ k 2 (xs.length : Int)).1 k 2 = (xs.length : Int) by simp [am_si]]
  refine go_iconst dX7_weigh_21 ?_
  refine go_iastore dX7_weigh_22 s2 (by first | assumption | exact Nat.le_of_ble_eq_true rfl) (by omega) (by omega) ?_
  refine go_aload_n dX7_weigh_23 rfl ?_
  refine go_getr fl_X7_15 dX7_weigh_24 (by first | assumption | exact sh_40 | exact sh_106) rfl ?_
  refine go_aload_n dX7_weigh_27 rfl ?_
  refine go_geti fl_X7_18 dX7_weigh_28 (by first | assumption | exact sh_40 | exact sh_106) rfl ?_
  rw [show (am_sa (am_si σ k 2 (xs.length : Int)) (k + 1) (xs.length : Int) 1).1 k 2 = (xs.length : Int) by simp [am_si, am_sa]]
  refine go_iconst dX7_weigh_31 ?_
  refine go_iastore dX7_weigh_32 s3 (by first | assumption | exact Nat.le_of_ble_eq_true rfl) (by omega) (by omega) ?_
  refine go_aload_n dX7_weigh_33 rfl ?_
  refine go_geti fl_X7_18 dX7_weigh_34 (by first | assumption | exact sh_40 | exact sh_106) rfl ?_
  rw [show (am_sa (am_sa (am_si σ k 2 (xs.length : Int)) (k + 1) (xs.length : Int) 1) (k + 2) (xs.length : Int) 1).1 k 2 = (xs.length : Int) by simp [am_si, am_sa]]
  refine go_iconst dX7_weigh_37 ?_
  refine go_isub dX7_weigh_38 ?_
  refine go_ist3 dX7_weigh_39 (Nat.le_of_ble_eq_true rfl) rfl ?_
  refine loop xs.length ((xs.length : Int) - 1) _ (by omega) (by omega) (by omega) ⟨by simp [am_si, am_sa], fun j hj hj0 hj2 => ?_⟩ ((am_off_si (by simp)).tr ((am_off_sa (by simp)).tr (am_off_sa (by simp))))
  have e : j = xs.length := by omega
  have q1 := mt_ws_drop S xs xs.length 0 (Nat.le_refl _)
  have q2 := mt_us_drop S xs xs.length 0 (Nat.le_refl _)
  rw [List.drop_length, Nat.add_zero] at q1 q2
  subst e
  rw [Int.toNat_natCast, ← q1, ← q2]
  simp [am_sa, mt_ws, mt_us]
theorem ev_X7_total {σ : am_St} {k : Nat} {xs : List Int} {S : List (List Int)} (hk : isSp k) (hw : spl σ k S xs 0) : am_Ev SH mX7_total 0 [.ref k] σ (am_rI (fun x σ2 => x = (mt_ws S xs).getD 0 0 ∧ σ2 = σ)) := by
  obtain ⟨s1, s2, s3⟩ := hk
  refine am_ev (by decide) [some (.ref k)] rfl (Nat.le_of_ble_eq_true rfl) ?_
  refine go_aload_n dX7_total_0 rfl ?_
  refine go_getr fl_X7_9 dX7_total_1 (by first | assumption | exact sh_40 | exact sh_106) rfl ?_
  refine go_iconst dX7_total_4 ?_
  refine go_iaload dX7_total_5 s2 (by first | assumption | exact Nat.le_of_ble_eq_true rfl) (by omega) (by omega) ?_
  refine go_retI dX7_total_6 rfl ?_
  exact ⟨(hw.2 0 (by omega) (by omega) (by omega)).1, rfl⟩
/-- the first rule that is taken, its length, and how many rows are still to be left out -/
def mt_pk (t : List Int) (us : Nat → Int) : List (List Int) → Int → Int → Option (Int × Nat × Int)
  | [], _, _ => none
  | s :: S, i, sk => if s <+: t ∧ 0 < s.length then (if sk < us s.length then some (i, s.length, sk) else mt_pk t us S (i + 1) (sk - us s.length)) else mt_pk t us S (i + 1) sk
def mt_row (S : List (List Int)) : Nat → List Int → Int → List Int
  | 0, _, _ => []
  | f + 1, t, sk => if t = [] then [] else match mt_pk t (fun L => (mt_us S t).getD L 0) S 0 sk with
      | none => []
      | some q => q.1 :: mt_row S f (t.drop q.2.1) q.2.2
def mt_pick (S : List (List Int)) (t : List Int) (which : Int) : List Int := if which < (mt_us S t).getD 0 0 then mt_row S t.length t which else []
theorem mt_fm {t : List Int} {us : Nat → Int} : ∀ (S : List (List Int)) (x y : Int), x ≤ y → S.foldl (fun acc s => if s <+: t ∧ 0 < s.length then min 2 (acc + us s.length) else acc) x ≤ S.foldl (fun acc s => if s <+: t ∧ 0 < s.length then min 2 (acc + us s.length) else acc) y
  | [], x, y, h => h
  | s :: S, x, y, h => by
    rw [List.foldl_cons, List.foldl_cons]
    refine mt_fm S _ _ ?_
    split <;> omega
theorem mt_fs {t : List Int} {us : Nat → Int} : ∀ (S : List (List Int)) (a b : Int), 0 ≤ a → S.foldl (fun acc s => if s <+: t ∧ 0 < s.length then min 2 (acc + us s.length) else acc) (a + b) ≤ a + S.foldl (fun acc s => if s <+: t ∧ 0 < s.length then min 2 (acc + us s.length) else acc) b
  | [], a, b, h => Int.le_refl _
  | s :: S, a, b, h => by
    rw [List.foldl_cons, List.foldl_cons]
    refine Int.le_trans (mt_fm S _ (a + (if s <+: t ∧ 0 < s.length then min 2 (b + us s.length) else b)) ?_) (mt_fs S a _ h)
    split <;> omega
theorem mt_pk_ok {t : List Int} {us : Nat → Int} (hu : ∀ L, 0 ≤ us L) : ∀ (S : List (List Int)) (i sk : Int), 0 ≤ sk → sk < S.foldl (fun acc s => if s <+: t ∧ 0 < s.length then min 2 (acc + us s.length) else acc) 0 → ∃ j : Nat, ∃ s, S[j]? = some s ∧ s <+: t ∧ 0 < s.length ∧ ∃ sk', mt_pk t us S i sk = some (i + j, s.length, sk') ∧ 0 ≤ sk' ∧ sk' < us s.length
  | [], i, sk, h0, h => by simp at h; omega
  | s :: S, i, sk, h0, h => by
    rw [List.foldl_cons] at h
    unfold mt_pk
    by_cases hc : s <+: t ∧ 0 < s.length
    · rw [if_pos hc] at h ⊢
      by_cases hs : sk < us s.length
      · rw [if_pos hs]
        exact ⟨0, s, rfl, hc.1, hc.2, sk, by simp, h0, hs⟩
      · rw [if_neg hs]
        have h1 := mt_fs (t := t) (us := us) S (us s.length) 0 (hu _)
        have h2 := mt_fm (t := t) (us := us) S (min 2 (0 + us s.length)) (us s.length + 0) (by omega)
        obtain ⟨j, s', g1, g2, g3, sk', g4, g5⟩ := mt_pk_ok (t := t) hu S (i + 1) (sk - us s.length) (by omega) (by omega)
        exact ⟨j + 1, s', g1, g2, g3, sk', by rw [g4]; congr 2; omega, g5⟩
    · rw [if_neg hc] at h ⊢
      obtain ⟨j, s', g1, g2, g3, sk', g4, g5⟩ := mt_pk_ok (t := t) hu S (i + 1) sk h0 h
      exact ⟨j + 1, s', g1, g2, g3, sk', by rw [g4]; congr 2; omega, g5⟩
/-- in a text that is not empty, with fewer rows to be left out than there are, a rule is found -/
theorem mt_pk_full {S : List (List Int)} {t : List Int} {sk : Int} (hne : t ≠ []) (h0 : 0 ≤ sk) (h : sk < (mt_us S t).getD 0 0) : ∃ j : Nat, ∃ s, S[j]? = some s ∧ s <+: t ∧ 0 < s.length ∧ ∃ sk', mt_pk t (fun L => (mt_us S t).getD L 0) S 0 sk = some ((j : Int), s.length, sk') ∧ 0 ≤ sk' ∧ sk' < (mt_us S (t.drop s.length)).getD 0 0 := by
  cases t with
  | nil => exact absurd rfl hne
  | cons c t =>
    have hfold : (mt_us S (c :: t)).getD 0 0 = S.foldl (fun acc s => if s <+: (c :: t) ∧ 0 < s.length then min 2 (acc + (fun L => (mt_us S (c :: t)).getD L 0) s.length) else acc) 0 := by
      show S.foldl _ 0 = S.foldl _ 0
      congr 1
      funext acc s
      by_cases hc : s <+: (c :: t) ∧ 0 < s.length
      · rw [if_pos hc, if_pos hc]
        obtain ⟨L, hL⟩ : ∃ L, s.length = L + 1 := ⟨s.length - 1, by omega⟩
        show min 2 (acc + (mt_us S t).getD (s.length - 1) 0) = min 2 (acc + (mt_us S (c :: t)).getD s.length 0)
        rw [hL]
        rfl
      · rw [if_neg hc, if_neg hc]
    rw [hfold] at h
    obtain ⟨j, s, g1, g2, g3, sk', g4, g5, g6⟩ := mt_pk_ok (t := c :: t) (fun L => (mt_us_bd S (c :: t) L).1) S 0 sk h0 h
    refine ⟨j, s, g1, g2, g3, sk', by rw [g4]; congr 2; omega, g5, ?_⟩
    rw [mt_us_drop S (c :: t) s.length 0 g2.length_le, Nat.add_zero]
    exact g6
theorem ev_X7_pick {σ : am_St} {k ks n kl nl k3 n3 : Nat} {xs ys : List Int} {S : List (List Int)} {which : Int} (hk : isSp k) (h : hold σ ks n (S.map enc)) (g : hold σ kl nl xs) (r : hold σ k3 n3 ys) (hS : okw S) (hS1 : S.length < 1000) (hx : xs.length ≤ 56) (hx3 : xs.length ≤ n3) (hn : nl < 1000000) (hw : spl σ k S xs 0) (h0 : 0 ≤ which) (h1 : which < 3) (d0 : k3 ≠ k ∧ k3 ≠ k + 1 ∧ k3 ≠ k + 2 ∧ k3 + 1 ≠ k ∧ k3 + 1 ≠ k + 2) (d1 : ks ≠ k3 ∧ ks ≠ k3 + 1 ∧ ks + 1 ≠ k3 ∧ ks + 1 ≠ k3 + 1) (d2 : kl ≠ k3 ∧ kl ≠ k3 + 1 ∧ kl + 1 ≠ k3 ∧ kl + 1 ≠ k3 + 1) : am_Ev SH mX7_pick 2 [.ref k, .ref ks, .ref kl, .int (iZ which), .ref k3] σ (am_rV (fun σ2 => hold σ2 k3 n3 (mt_pick S xs which) ∧ am_off [k3, k3 + 1] σ σ2)) := by
  obtain ⟨s1, s2, s3⟩ := hk
  have hks := h.1
  have hkl := g.1
  have hk3 := r.1
  have hl5 := h.2.2.2.2.1
  have hl3 := h.2.2.1
  have gl5 := g.2.2.2.2.1
  rw [List.length_map] at hl5
  generalize hT : mt_pick S xs which = T
  have spo : ∀ σ1, am_off [k3, k3 + 1] σ σ1 → spl σ1 k S xs 0 := by
    intro σ1 ho
    have o0 := ho k (by simp; omega)
    have o1 := ho (k + 1) (by simp; omega)
    have o2 := ho (k + 2) (by simp; omega)
    refine ⟨(o0.1 2).trans hw.1, fun j hj hj0 hj2 => ?_⟩
    rw [o1.2.2, o2.2.2]
    exact hw.2 j hj hj0 hj2
  have outer : ∀ (m : Nat) (st : Nat) (row : List Int) (p sk : Int) (σ1 : am_St) (w8 w9 w10 : Option Value), xs.length - st < m → st ≤ xs.length → row.length = st → 0 ≤ p → p ≤ xs.length → st ≤ p → 0 ≤ sk → sk < (mt_us S (xs.drop p.toNat)).getD 0 0 → hold σ1 k3 n3 row → am_off [k3, k3 + 1] σ σ1 → row ++ mt_row S (xs.length - st) (xs.drop p.toNat) sk = T → am_Go SH mX7_pick 2 (am_rV (fun σ2 => hold σ2 k3 n3 T ∧ am_off [k3, k3 + 1] σ σ2)) 25 [some (.ref k), some (.ref ks), some (.ref kl), some (.int (iZ which)), some (.ref k3), some (.int (iZ sk)), some (.int (iZ p)), some (.int (iZ st)), w8, w9, w10] [] σ1 := by
    intro m
    induction m with
    | zero => intro st row p sk σ1 w8 w9 w10 hm; exact absurd hm (by omega)
    | succ m ih =>
      intro st row p sk σ1 w8 w9 w10 hm hst hrow hp0 hp1 hstp hsk0 hsk1 hr ho e1
      have h' := h.off ho (by simp; omega) (by simp; omega)
      have g' := g.off ho (by simp; omega) (by simp; omega)
      have hw' := spo σ1 ho
      have hend := hw'.1
      by_cases hfin : p = xs.length
      · have efin : hold σ1 k3 n3 T := by
          rw [← e1]
          have : xs.drop p.toNat = [] := List.drop_eq_nil_of_le (by omega)
          rw [this]
          cases xs.length - st with
          | zero => simpa [mt_row] using hr
          | succ f => simpa [mt_row] using hr
        refine go_iload dX7_pick_25 rfl ?_
        refine go_aload_n dX7_pick_27 rfl ?_
        refine go_geti fl_X7_18 dX7_pick_28 (by first | assumption | exact sh_40 | exact sh_106) rfl ?_
        refine go_icmp_ge (tgt := 150) dX7_pick_31 (by decide) (by unfold inR; omega) (by unfold inR; omega) (fun b31 => ?_) (fun b31 => ?_)
        · skip
          refine go_retV dX7_pick_150 rfl ?_
          exact ⟨efin, ho⟩
        · skip
          refine go_iload dX7_pick_34 rfl ?_
          refine go_aload_n dX7_pick_36 rfl ?_
          refine go_geti fl_X7_18 dX7_pick_37 (by first | assumption | exact sh_40 | exact sh_106) rfl ?_
          refine go_icmp_ge (tgt := 150) dX7_pick_40 (by decide) (by unfold inR; omega) (by unfold inR; omega) (fun b40 => ?_) (fun b40 => ?_)
          · skip
            refine go_retV dX7_pick_150 rfl ?_
            exact ⟨efin, ho⟩
          · skip
            exact absurd b40 (by omega)
      · have hne : xs.drop p.toNat ≠ [] := by intro q; have := congrArg List.length q; rw [List.length_drop] at this; simp at this; omega
        obtain ⟨j, s, g1, g2, g3, sk', g4, g5, g6⟩ := mt_pk_full hne hsk0 hsk1
        obtain ⟨f, hf⟩ : ∃ f, xs.length - st = f + 1 := ⟨xs.length - st - 1, by omega⟩
        rw [hf] at e1
        unfold mt_row at e1
        rw [if_neg hne, g4] at e1
        dsimp only at e1
        have hjl := (List.getElem?_eq_some_iff.mp g1).1
        have hsl := g2.length_le
        rw [List.length_drop] at hsl
        have aft : ∀ (i : Int) (σ2 : am_St) (w10 : Option Value), 0 ≤ i → i ≤ S.length → hold σ2 k3 n3 (row ++ [(j : Int)]) → am_off [k3, k3 + 1] σ σ2 → am_Go SH mX7_pick 2 (am_rV (fun σ2 => hold σ2 k3 n3 T ∧ am_off [k3, k3 + 1] σ σ2)) 50 [some (.ref k), some (.ref ks), some (.ref kl), some (.int (iZ which)), some (.ref k3), some (.int (iZ sk')), some (.int (iZ p)), some (.int (iZ st)), some (.int (iZ (p + s.length))), some (.int (iZ i)), w10] [] σ2 := by
          intro i σ2 w10 hi0 hi1 hr2 ho2
          have h'' := h.off ho2 (by simp; omega) (by simp; omega)
          refine go_iload dX7_pick_50 rfl ?_
          refine go_aload_n dX7_pick_52 rfl ?_
          refine go_cvP0 (M2 := mX1_size) dX7_pick_53 ml_X7_22 mv_X1_size (by assumption) rfl rfl (Nat.le_of_ble_eq_true rfl) (by decide) (ev_X1_size h'') ?_
          rw [List.length_map]
          refine go_icmp_ge (tgt := 140) dX7_pick_56 (by decide) (by unfold inR; omega) (by unfold inR; omega) (fun b56 => ?_) (fun b56 => ?_)
          · skip
            refine go_iload dX7_pick_140 rfl ?_
            refine go_ist6 dX7_pick_142 (Nat.le_of_ble_eq_true rfl) rfl ?_
            refine go_inc7 dX7_pick_144 (Nat.le_of_ble_eq_true rfl) rfl ?_
            refine go_goto (tgt := 25) dX7_pick_147 (by decide) ?_
            rw [show (st : Int) + 1 = ((st + 1 : Nat) : Int) by omega]
            refine ih (st + 1) (row ++ [(j : Int)]) (p + s.length) sk' σ2 _ _ _ (by omega) (by omega) (by simp; omega) (by omega) (by omega) (by omega) g5 ?_ hr2 ho2 ?_
            · rw [show (p + (s.length : Int)).toNat = p.toNat + s.length by omega, ← List.drop_drop]; exact g6
            · rw [← e1, show xs.length - (st + 1) = f by omega, show (p + (s.length : Int)).toNat = p.toNat + s.length by omega, ← List.drop_drop]; simp
          · skip
            refine go_iload dX7_pick_59 rfl ?_
            refine go_iload dX7_pick_61 rfl ?_
            refine go_icmp_ne (tgt := 140) dX7_pick_63 (by decide) (by unfold inR; omega) (by unfold inR; omega) (fun b63 => ?_) (fun b63 => ?_)
            · skip
              refine go_iload dX7_pick_140 rfl ?_
              refine go_ist6 dX7_pick_142 (Nat.le_of_ble_eq_true rfl) rfl ?_
              refine go_inc7 dX7_pick_144 (Nat.le_of_ble_eq_true rfl) rfl ?_
              refine go_goto (tgt := 25) dX7_pick_147 (by decide) ?_
              rw [show (st : Int) + 1 = ((st + 1 : Nat) : Int) by omega]
              refine ih (st + 1) (row ++ [(j : Int)]) (p + s.length) sk' σ2 _ _ _ (by omega) (by omega) (by simp; omega) (by omega) (by omega) (by omega) g5 ?_ hr2 ho2 ?_
              · rw [show (p + (s.length : Int)).toNat = p.toNat + s.length by omega, ← List.drop_drop]; exact g6
              · rw [← e1, show xs.length - (st + 1) = f by omega, show (p + (s.length : Int)).toNat = p.toNat + s.length by omega, ← List.drop_drop]; simp
            · skip
              exact absurd b63 (by omega)
        have inner : ∀ (m2 : Nat) (i : Nat) (sk2 : Int) (w10 : Option Value), S.length - i < m2 → i ≤ S.length → 0 ≤ sk2 → sk2 < 3 → mt_pk (xs.drop p.toNat) (fun L => (mt_us S (xs.drop p.toNat)).getD L 0) (S.drop i) i sk2 = some ((j : Int), s.length, sk') → am_Go SH mX7_pick 2 (am_rV (fun σ2 => hold σ2 k3 n3 T ∧ am_off [k3, k3 + 1] σ σ2)) 50 [some (.ref k), some (.ref ks), some (.ref kl), some (.int (iZ which)), some (.ref k3), some (.int (iZ sk2)), some (.int (iZ p)), some (.int (iZ st)), some (.int (iZ p)), some (.int (iZ i)), w10] [] σ1 := by
          intro m2
          induction m2 with
          | zero => intro i sk2 w10 hm2; exact absurd hm2 (by omega)
          | succ m2 ih2 =>
            intro i sk2 w10 hm2 hil hs0 hs3 hpk
            have hil2 : i < S.length := by
              apply Nat.lt_of_not_le
              intro q
              rw [List.drop_eq_nil_of_le q] at hpk
              cases hpk
            rw [List.drop_eq_getElem_cons hil2] at hpk
            unfold mt_pk at hpk
            have hsi : S.getD i [] = S[i] := by rw [List.getD_eq_getElem?_getD, List.getElem?_eq_getElem hil2]; rfl
            rw [← hsi] at hpk
            have hs4 := (okw_get hS i).2
            refine go_iload dX7_pick_50 rfl ?_
            refine go_aload_n dX7_pick_52 rfl ?_
            refine go_cvP0 (M2 := mX1_size) dX7_pick_53 ml_X7_22 mv_X1_size (by assumption) rfl rfl (Nat.le_of_ble_eq_true rfl) (by decide) (ev_X1_size h') ?_
            rw [List.length_map]
            refine go_icmp_ge (tgt := 140) dX7_pick_56 (by decide) (by unfold inR; omega) (by unfold inR; omega) (fun b56 => ?_) (fun b56 => ?_)
            · skip
              exact absurd b56 (by omega)
            · skip
              refine go_iload dX7_pick_59 rfl ?_
              refine go_iload dX7_pick_61 rfl ?_
              refine go_icmp_ne (tgt := 140) dX7_pick_63 (by decide) (by unfold inR; omega) (by unfold inR; omega) (fun b63 => ?_) (fun b63 => ?_)
              · skip
                exact absurd rfl b63
              · skip
                refine go_aload_n dX7_pick_66 rfl ?_
                refine go_iload dX7_pick_67 rfl ?_
                refine go_cvP1 (M2 := mX1_at) dX7_pick_69 ml_X7_38 mv_X1_at (by assumption) rfl rfl (Nat.le_of_ble_eq_true rfl) (by decide) (ev_X1_at h' (by unfold inR; omega)) ?_
                rw [ln_at_map (by omega) (by omega), Int.toNat_natCast]
                refine go_aload_n dX7_pick_72 rfl ?_
                refine go_iload dX7_pick_73 rfl ?_
                refine go_csP3 (M2 := mX2_endOf) dX7_pick_75 ml_X7_42 ms_X2_endOf (Nat.le_of_ble_eq_true rfl) (by decide) (ev_X2_endOf g' (okw_get hS i).1 (okw_get hS i).2 hp0 (by omega) hn) ?_
                obtain ⟨E, hE⟩ : ∃ E : Int, E = (if S.getD i [] <+: xs.drop p.toNat then p + (S.getD i []).length else -1) := ⟨_, rfl⟩
                rw [← hE]
                have hER : inR E := by rw [hE]; unfold inR; split <;> omega
                refine go_ist10 dX7_pick_78 (Nat.le_of_ble_eq_true rfl) rfl ?_
                refine go_iload dX7_pick_80 rfl ?_
                refine go_iload dX7_pick_82 rfl ?_
                refine go_icmp_le (tgt := 134) dX7_pick_84 (by decide) hER (by unfold inR; omega) (fun b84 => ?_) (fun b84 => ?_)
                · skip
                  refine go_inc9 dX7_pick_134 (Nat.le_of_ble_eq_true rfl) rfl ?_
                  refine go_goto (tgt := 50) dX7_pick_137 (by decide) ?_
                  rw [show (i : Int) + 1 = ((i + 1 : Nat) : Int) by omega]
                  first
                    | (rw [hE, q2, q3]
                       rw [q1] at hq
                       exact aft ((i + 1 : Nat) : Int) σ2 _ (by omega) (by omega) hq.1 (ho.tr hq.2))
                    | exact ih2 (i + 1) _ _ (by omega) (by omega) (by omega) (by omega) hpk
                    | (have hc : ¬ (S.getD i [] <+: xs.drop p.toNat ∧ 0 < (S.getD i []).length) := by
                         rintro ⟨hp, hq⟩
                         rw [if_pos hp] at hE
                         have := hp.length_le
                         rw [List.length_drop] at this
                         omega
                       rw [if_neg hc] at hpk
                       exact ih2 (i + 1) _ _ (by omega) (by omega) hs0 hs3 hpk)
                · skip
                  refine go_iload dX7_pick_87 rfl ?_
                  refine go_aload_n dX7_pick_89 rfl ?_
                  refine go_geti fl_X7_18 dX7_pick_90 (by first | assumption | exact sh_40 | exact sh_106) rfl ?_
                  rw [hend]
                  refine go_icmp_gt (tgt := 134) dX7_pick_93 (by decide) hER (by unfold inR; omega) (fun b93 => ?_) (fun b93 => ?_)
                  · skip
                    refine go_inc9 dX7_pick_134 (Nat.le_of_ble_eq_true rfl) rfl ?_
                    refine go_goto (tgt := 50) dX7_pick_137 (by decide) ?_
                    rw [show (i : Int) + 1 = ((i + 1 : Nat) : Int) by omega]
                    first
                      | (rw [hE, q2, q3]
                         rw [q1] at hq
                         exact aft ((i + 1 : Nat) : Int) σ2 _ (by omega) (by omega) hq.1 (ho.tr hq.2))
                      | exact ih2 (i + 1) _ _ (by omega) (by omega) (by omega) (by omega) hpk
                      | (have hc : ¬ (S.getD i [] <+: xs.drop p.toNat ∧ 0 < (S.getD i []).length) := by
                           rintro ⟨hp, hq⟩
                           rw [if_pos hp] at hE
                           have := hp.length_le
                           rw [List.length_drop] at this
                           omega
                         rw [if_neg hc] at hpk
                         exact ih2 (i + 1) _ _ (by omega) (by omega) hs0 hs3 hpk)
                  · skip
                    have hpf : S.getD i [] <+: xs.drop p.toNat := by
                      apply Classical.byContradiction
                      intro q
                      rw [if_neg q] at hE
                      omega
                    rw [if_pos hpf] at hE
                    have hpos : 0 < (S.getD i []).length := by omega
                    rw [if_pos ⟨hpf, hpos⟩] at hpk
                    have hu := (hw'.2 E (by omega) (by omega) (by omega)).2
                    have eU : (mt_us S xs).getD E.toNat 0 = (mt_us S (xs.drop p.toNat)).getD (S.getD i []).length 0 := by rw [mt_us_drop S xs _ _ (by omega)]; congr 1; omega
                    have bU := mt_us_bd S xs E.toNat
                    rw [eU] at hu bU
                    refine go_iload dX7_pick_96 rfl ?_
                    refine go_aload_n dX7_pick_98 rfl ?_
                    refine go_getr fl_X7_15 dX7_pick_99 (by first | assumption | exact sh_40 | exact sh_106) rfl ?_
                    refine go_iload dX7_pick_102 rfl ?_
                    refine go_iaload dX7_pick_104 s3 (by first | assumption | exact Nat.le_of_ble_eq_true rfl) (by omega) (by omega) ?_
                    rw [hu]
                    refine go_icmp_ge (tgt := 122) dX7_pick_105 (by decide) (by unfold inR; omega) (by unfold inR; omega) (fun b105 => ?_) (fun b105 => ?_)
                    · skip
                      rw [if_neg (by omega)] at hpk
                      refine go_iload dX7_pick_122 rfl ?_
                      refine go_aload_n dX7_pick_124 rfl ?_
                      refine go_getr fl_X7_15 dX7_pick_125 (by first | assumption | exact sh_40 | exact sh_106) rfl ?_
                      refine go_iload dX7_pick_128 rfl ?_
                      refine go_iaload dX7_pick_130 s3 (by first | assumption | exact Nat.le_of_ble_eq_true rfl) (by omega) (by omega) ?_
                      rw [hu]
                      refine go_isub dX7_pick_131 ?_
                      refine go_ist5 dX7_pick_132 (Nat.le_of_ble_eq_true rfl) rfl ?_
                      refine go_inc9 dX7_pick_134 (Nat.le_of_ble_eq_true rfl) rfl ?_
                      refine go_goto (tgt := 50) dX7_pick_137 (by decide) ?_
                      rw [show (i : Int) + 1 = ((i + 1 : Nat) : Int) by omega]
                      first
                        | (rw [hE, q2, q3]
                           rw [q1] at hq
                           exact aft ((i + 1 : Nat) : Int) σ2 _ (by omega) (by omega) hq.1 (ho.tr hq.2))
                        | exact ih2 (i + 1) _ _ (by omega) (by omega) (by omega) (by omega) hpk
                        | (have hc : ¬ (S.getD i [] <+: xs.drop p.toNat ∧ 0 < (S.getD i []).length) := by
                             rintro ⟨hp, hq⟩
                             rw [if_pos hp] at hE
                             have := hp.length_le
                             rw [List.length_drop] at this
                             omega
                           rw [if_neg hc] at hpk
                           exact ih2 (i + 1) _ _ (by omega) (by omega) hs0 hs3 hpk)
                    · skip
                      rw [if_pos (by omega)] at hpk
                      have hpk := Option.some.inj hpk
                      obtain ⟨q1, q2, q3⟩ : (i : Int) = j ∧ (S.getD i []).length = s.length ∧ sk2 = sk' := ⟨congrArg Prod.fst hpk, congrArg (fun z => z.2.1) hpk, congrArg (fun z => z.2.2) hpk⟩
                      refine go_aload dX7_pick_108 rfl ?_
                      refine go_iload dX7_pick_110 rfl ?_
                      refine go_cvV1 (M2 := mX1_add) dX7_pick_112 ml_X7_52 mv_X1_add (by assumption) rfl rfl (Nat.le_of_ble_eq_true rfl) (by decide) (ev_X1_add hr (item := (i : Int)) (by unfold inR; omega) (by omega)) (fun σ2 hq => ?_)
                      refine go_iload dX7_pick_115 rfl ?_
                      refine go_ist8 dX7_pick_117 (Nat.le_of_ble_eq_true rfl) rfl ?_
                      refine go_goto (tgt := 134) dX7_pick_119 (by decide) ?_
                      refine go_inc9 dX7_pick_134 (Nat.le_of_ble_eq_true rfl) rfl ?_
                      refine go_goto (tgt := 50) dX7_pick_137 (by decide) ?_
                      rw [show (i : Int) + 1 = ((i + 1 : Nat) : Int) by omega]
                      first
                        | (rw [hE, q2, q3]
                           rw [q1] at hq
                           exact aft ((i + 1 : Nat) : Int) σ2 _ (by omega) (by omega) hq.1 (ho.tr hq.2))
                        | exact ih2 (i + 1) _ _ (by omega) (by omega) (by omega) (by omega) hpk
                        | (have hc : ¬ (S.getD i [] <+: xs.drop p.toNat ∧ 0 < (S.getD i []).length) := by
                             rintro ⟨hp, hq⟩
                             rw [if_pos hp] at hE
                             have := hp.length_le
                             rw [List.length_drop] at this
                             omega
                           rw [if_neg hc] at hpk
                           exact ih2 (i + 1) _ _ (by omega) (by omega) hs0 hs3 hpk)
        refine go_iload dX7_pick_25 rfl ?_
        refine go_aload_n dX7_pick_27 rfl ?_
        refine go_geti fl_X7_18 dX7_pick_28 (by first | assumption | exact sh_40 | exact sh_106) rfl ?_
        refine go_icmp_ge (tgt := 150) dX7_pick_31 (by decide) (by unfold inR; omega) (by unfold inR; omega) (fun b31 => ?_) (fun b31 => ?_)
        · skip
          exact absurd b31 (by omega)
        · skip
          refine go_iload dX7_pick_34 rfl ?_
          refine go_aload_n dX7_pick_36 rfl ?_
          refine go_geti fl_X7_18 dX7_pick_37 (by first | assumption | exact sh_40 | exact sh_106) rfl ?_
          refine go_icmp_ge (tgt := 150) dX7_pick_40 (by decide) (by unfold inR; omega) (by unfold inR; omega) (fun b40 => ?_) (fun b40 => ?_)
          · skip
            exact absurd b40 (by omega)
          · skip
            refine go_iload dX7_pick_43 rfl ?_
            refine go_ist8 dX7_pick_45 (Nat.le_of_ble_eq_true rfl) rfl ?_
            refine go_iconst dX7_pick_47 ?_
            refine go_ist9 dX7_pick_48 (Nat.le_of_ble_eq_true rfl) rfl ?_
            exact inner (S.length + 1) 0 sk w10 (by omega) (by omega) hsk0 (by have := (mt_us_bd S (xs.drop p.toNat) 0).2; omega) g4
  refine am_ev (by decide) [some (.ref k), some (.ref ks), some (.ref kl), some (.int (iZ (which))), some (.ref k3), none, none, none, none, none, none] rfl (Nat.le_of_ble_eq_true rfl) ?_
  refine go_aload dX7_pick_0 rfl ?_
  refine go_cvV0 (M2 := mX1_clear) dX7_pick_2 ml_X7_49 mv_X1_clear (by assumption) rfl rfl (Nat.le_of_ble_eq_true rfl) (by decide) (ev_X1_clear r) (fun σ1 hq => ?_)
  have hw1 := spo σ1 hq.2
  have hu0 := (hw1.2 0 (by omega) (by omega) (by omega)).2
  have hub := mt_us_bd S xs 0
  rw [show (0 : Int).toNat = 0 from rfl] at hu0
  unfold mt_pick at hT
  refine go_iload_n dX7_pick_5 rfl ?_
  refine go_aload_n dX7_pick_6 rfl ?_
  refine go_getr fl_X7_15 dX7_pick_7 (by first | assumption | exact sh_40 | exact sh_106) rfl ?_
  refine go_iconst dX7_pick_10 ?_
  refine go_iaload dX7_pick_11 s3 (by first | assumption | exact Nat.le_of_ble_eq_true rfl) (by omega) (by omega) ?_
  rw [hu0]
  refine go_icmp_lt (tgt := 16) dX7_pick_12 (by decide) (by unfold inR; omega) (by unfold inR; omega) (fun b12 => ?_) (fun b12 => ?_)
  · skip
    refine go_iload_n dX7_pick_16 rfl ?_
    refine go_ist5 dX7_pick_17 (Nat.le_of_ble_eq_true rfl) rfl ?_
    refine go_iconst dX7_pick_19 ?_
    refine go_ist6 dX7_pick_20 (Nat.le_of_ble_eq_true rfl) rfl ?_
    refine go_iconst dX7_pick_22 ?_
    refine go_ist7 dX7_pick_23 (Nat.le_of_ble_eq_true rfl) rfl ?_
    rw [if_pos (by omega)] at hT
    exact outer (xs.length + 1) 0 [] 0 which σ1 none none none (by omega) (by omega) rfl (by omega) (by omega) (by omega) h0 (by rw [show (0 : Int).toNat = 0 from rfl, List.drop_zero]; omega) hq.1 hq.2 (by rw [← hT]; rfl)
  · skip
    refine go_retV dX7_pick_15 rfl ?_
    rw [if_neg (by omega)] at hT
    rw [← hT]
    exact hq

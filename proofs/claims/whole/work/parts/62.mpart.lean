/-! ===== the reference: what is left of signs, told by rule and place ===== -/
def pt (S : List (List Int)) (p : Nat) : List Int := (S.getD (p / 5) []).drop (p % 5)
abbrev okp (S : List (List Int)) (p : Nat) : Prop := p / 5 < S.length ∧ p % 5 ≤ (S.getD (p / 5) []).length
theorem pt_len {S : List (List Int)} {p : Nat} : (pt S p).length = (S.getD (p / 5) []).length - p % 5 := by unfold pt; rw [List.length_drop]
theorem dv5 (p : Nat) : (p : Int) / 5 = ((p / 5 : Nat) : Int) := by omega
theorem md5 (p : Nat) : (p : Int) % 5 = ((p % 5 : Nat) : Int) := by omega
theorem tbM.S8 {σ : am_St} {L R : List (List Int)} {m : Nat} (h : tbM σ L R m) : (mt_sg R m).length = R.length ∧ R.length ≤ 8 := ⟨mt_sg_len R m, h.2.2.2.2.2.1⟩
theorem tbM.pk {σ : am_St} {L R : List (List Int)} {m : Nat} (h : tbM σ L R m) (p : Nat) : okl (pt (mt_sg R m) p) ∧ (pt (mt_sg R m) p).length ≤ 4 := by
  have := h.sg (p / 5)
  refine ⟨this.1.drop _, ?_⟩
  rw [pt_len]; omega
theorem ev_X11_lengthOf {σ : am_St} {L R : List (List Int)} {m p : Nat} (h : tbM σ L R m) (hp : okp (mt_sg R m) p) : am_Ev SH mX11_lengthOf 1 [.ref 0, .int (iZ (p : Int))] σ (am_rI (fun x σ2 => x = ((pt (mt_sg R m) p).length : Int) ∧ σ2 = σ)) := by
  have h8 := h.S8
  have hp1 := hp.1
  have hp2 := hp.2
  have e : (((mt_sg R m).getD (p / 5) []).length : Int) - (p : Int) % 5 = ((pt (mt_sg R m) p).length : Int) := by rw [pt_len]; omega
  refine am_ev (by decide) [some (.ref 0), some (.int (iZ ((p : Int))))] rfl (Nat.le_of_ble_eq_true rfl) ?_
  refine go_aload_n dX11_lengthOf_0 rfl ?_
  refine go_iload_n dX11_lengthOf_1 rfl ?_
  refine go_iconst dX11_lengthOf_2 ?_
  refine go_idiv dX11_lengthOf_3 (by omega) (by unfold inR; omega) (by omega) (by unfold inR; omega) ?_
  rw [dv5]
  refine go_cvP1 (M2 := mX11_signLength) dX11_lengthOf_4 ml_X11_137 mv_X11_signLength sh_0 rfl rfl (Nat.le_of_ble_eq_true rfl) (by decide) (ev_X11_signLength h (show p / 5 < R.length by omega)) ?_
  refine go_iload_n dX11_lengthOf_7 rfl ?_
  refine go_iconst dX11_lengthOf_8 ?_
  refine go_irem dX11_lengthOf_9 (by omega) (by unfold inR; omega) (by omega) (by unfold inR; omega) ?_
  refine go_isub dX11_lengthOf_10 ?_
  rw [e]
  refine go_retI dX11_lengthOf_11 rfl ?_
  exact ⟨rfl, rfl⟩
theorem pt_at {S : List (List Int)} {p i : Nat} (hi : i < (pt S p).length) : ln_at (pt S p) (i : Int) = ln_at (S.getD (p / 5) []) ((p % 5 + i : Nat) : Int) := by
  rw [pt_len] at hi
  have := ln_at_dr (xs := S.getD (p / 5) []) (f := p % 5) (i := i) (by omega)
  unfold pt
  rw [this]
  push_cast
  rfl
theorem ev_X11_letterOf {σ : am_St} {L R : List (List Int)} {m p i : Nat} (h : tbM σ L R m) (hp : okp (mt_sg R m) p) (hi : i < (pt (mt_sg R m) p).length) : am_Ev SH mX11_letterOf 1 [.ref 0, .int (iZ (p : Int)), .int (iZ (i : Int))] σ (am_rI (fun x σ2 => x = ln_at (pt (mt_sg R m) p) (i : Int) ∧ σ2 = σ)) := by
  have h8 := h.S8
  have hp1 := hp.1
  have hp2 := hp.2
  have hi2 := hi
  rw [pt_len] at hi2
  refine am_ev (by decide) [some (.ref 0), some (.int (iZ ((p : Int)))), some (.int (iZ ((i : Int))))] rfl (Nat.le_of_ble_eq_true rfl) ?_
  refine go_aload_n dX11_letterOf_0 rfl ?_
  refine go_iload_n dX11_letterOf_1 rfl ?_
  refine go_iconst dX11_letterOf_2 ?_
  refine go_idiv dX11_letterOf_3 (by omega) (by unfold inR; omega) (by omega) (by unfold inR; omega) ?_
  rw [dv5]
  refine go_iload_n dX11_letterOf_4 rfl ?_
  refine go_iconst dX11_letterOf_5 ?_
  refine go_irem dX11_letterOf_6 (by omega) (by unfold inR; omega) (by omega) (by unfold inR; omega) ?_
  refine go_iload_n dX11_letterOf_7 rfl ?_
  refine go_iadd dX11_letterOf_8 ?_
  rw [md5, ← Int.natCast_add]
  refine go_cvP2 (M2 := mX11_signAt) dX11_letterOf_9 ml_X11_140 mv_X11_signAt sh_0 rfl rfl (Nat.le_of_ble_eq_true rfl) (by decide) (ev_X11_signAt h (show p / 5 < R.length by omega) (by omega)) ?_
  refine go_retI dX11_letterOf_12 rfl ?_
  exact ⟨(pt_at hi).symm, rfl⟩
theorem ev_X11_isPart {σ : am_St} {L R : List (List Int)} {m p : Nat} (h : tbM σ L R m) (hp : p < 1000) : am_Ev SH mX11_isPart 1 [.ref 0, .int (iZ (p : Int))] σ (am_rI (fun x σ2 => x = (if okp (mt_sg R m) p then 1 else 0) ∧ σ2 = σ)) := by
  have h8 := h.S8
  have l4 := (h.sg (p / 5)).2
  refine am_ev (by decide) [some (.ref 0), some (.int (iZ ((p : Int))))] rfl (Nat.le_of_ble_eq_true rfl) ?_
  refine go_iload_n dX11_isPart_0 rfl ?_
  refine go_iconst dX11_isPart_1 ?_
  refine go_idiv dX11_isPart_2 (by omega) (by unfold inR; omega) (by omega) (by unfold inR; omega) ?_
  refine go_aload_n dX11_isPart_3 rfl ?_
  refine go_geti fl_X11_109 dX11_isPart_4 sh_0 rfl ?_
  first | (rw [h.1]) | skip
  refine go_icmp_ge (tgt := 27) dX11_isPart_7 (by decide) (by unfold inR; omega) (by unfold inR; omega) (fun b7 => ?_) (fun b7 => ?_)
  · skip
    refine go_iconst dX11_isPart_27 ?_
    refine go_retZ dX11_isPart_28 rfl (by omega) ?_
    refine ⟨?_, rfl⟩
    first | (rw [if_pos (by omega)]; done) | (rw [if_neg (by omega)]; done)
  · skip
    refine go_iload_n dX11_isPart_10 rfl ?_
    refine go_iconst dX11_isPart_11 ?_
    refine go_irem dX11_isPart_12 (by omega) (by unfold inR; omega) (by omega) (by unfold inR; omega) ?_
    refine go_aload_n dX11_isPart_13 rfl ?_
    refine go_iload_n dX11_isPart_14 rfl ?_
    refine go_iconst dX11_isPart_15 ?_
    refine go_idiv dX11_isPart_16 (by omega) (by unfold inR; omega) (by omega) (by unfold inR; omega) ?_
    rw [dv5]
    refine go_cvP1 (M2 := mX11_signLength) dX11_isPart_17 ml_X11_137 mv_X11_signLength sh_0 rfl rfl (Nat.le_of_ble_eq_true rfl) (by decide) (ev_X11_signLength h (show p / 5 < R.length by omega)) ?_
    refine go_icmp_gt (tgt := 27) dX11_isPart_20 (by decide) (by unfold inR; omega) (by unfold inR; omega) (fun b20 => ?_) (fun b20 => ?_)
    · skip
      refine go_iconst dX11_isPart_27 ?_
      refine go_retZ dX11_isPart_28 rfl (by omega) ?_
      refine ⟨?_, rfl⟩
      first | (rw [if_pos (by omega)]; done) | (rw [if_neg (by omega)]; done)
    · skip
      refine go_iconst dX11_isPart_23 ?_
      refine go_goto (tgt := 28) dX11_isPart_24 (by decide) ?_
      refine go_retZ dX11_isPart_28 rfl (by omega) ?_
      refine ⟨?_, rfl⟩
      first | (rw [if_pos (by omega)]; done) | (rw [if_neg (by omega)]; done)
/-- for words of one length: equal up to i -/
theorem pb_eq {a b : List Int} (hl : a.length = b.length) : a <+: b ↔ a = b := ⟨fun h => h.eq_of_length hl, fun h => h ▸ List.prefix_rfl⟩
theorem ev_X11_areAlike {σ : am_St} {L R : List (List Int)} {m a b : Nat} (h : tbM σ L R m) (ha : okp (mt_sg R m) a) (hb : okp (mt_sg R m) b) : am_Ev SH mX11_areAlike 2 [.ref 0, .int (iZ (a : Int)), .int (iZ (b : Int))] σ (am_rI (fun x σ2 => x = (if pt (mt_sg R m) a = pt (mt_sg R m) b then 1 else 0) ∧ σ2 = σ)) := by
  have h4a := (h.pk a).2
  have h4b := (h.pk b).2
  have ra := okl_R (h.pk a).1
  have rb := okl_R (h.pk b).1
  have sla := ev_X11_lengthOf h ha
  have slb := ev_X11_lengthOf h hb
  have saa := fun i => ev_X11_letterOf (i := i) h ha
  have sab := fun i => ev_X11_letterOf (i := i) h hb
  generalize hA : pt (mt_sg R m) a = A at *
  generalize hB : pt (mt_sg R m) b = B at *
  have loop : ∀ (m2 : Nat) (i : Nat) (y : Int), (y = 0 ∧ ¬ A = B) ∨ (A.length = B.length ∧ y = pb A B i) → A.length - i < m2 → i ≤ A.length → am_Go SH mX11_areAlike 2 (am_rI (fun x σ2 => x = (if A = B then 1 else 0) ∧ σ2 = σ)) 22 [some (.ref 0), some (.int (iZ (a : Int))), some (.int (iZ (b : Int))), some (.int (iZ y)), some (.int (iZ (i : Int)))] [] σ := by
    intro m2
    induction m2 with
    | zero => intro i y _ hm; exact absurd hm (by omega)
    | succ m2 ih =>
      intro i y hy hm hi
      have hy01 : y = 0 ∨ y = 1 := by rcases hy with z | z; exact Or.inl z.1; rw [z.2]; exact pb_01 _ _ _
      have hfin : A.length ≤ i ∨ y = 0 → y = if A = B then 1 else 0 := fun hc => by
        rcases hy with z | z
        · rw [if_neg z.2]; exact z.1
        · rw [z.2, pb_end (by rw [← z.2]; exact hc)]
          simp only [pb_eq z.1]
      refine go_iload dX11_areAlike_22 rfl ?_
      refine go_aload_n dX11_areAlike_24 rfl ?_
      refine go_iload_n dX11_areAlike_25 rfl ?_
      refine go_cvP1 (M2 := mX11_lengthOf) dX11_areAlike_26 ml_X11_207 mv_X11_lengthOf sh_0 rfl rfl (Nat.le_of_ble_eq_true rfl) (by decide) (sla) ?_
      refine go_icmp_ge (tgt := 65) dX11_areAlike_29 (by decide) (by unfold inR; omega) (by unfold inR; omega) (fun b29 => ?_) (fun b29 => ?_)
      · skip
        refine go_iload_n dX11_areAlike_65 rfl ?_
        refine go_retZ dX11_areAlike_66 rfl hy01 ?_
        exact ⟨hfin (by first | exact Or.inl (by omega) | exact Or.inr b33), rfl⟩
      · skip
        refine go_iload_n dX11_areAlike_32 rfl ?_
        refine go_if_eq (tgt := 65) dX11_areAlike_33 (by decide) (by unfold inR; omega) (fun b33 => ?_) (fun b33 => ?_)
        · skip
          refine go_iload_n dX11_areAlike_65 rfl ?_
          refine go_retZ dX11_areAlike_66 rfl hy01 ?_
          exact ⟨hfin (by first | exact Or.inl (by omega) | exact Or.inr b33), rfl⟩
        · skip
          obtain ⟨hl, hy2⟩ := hy.resolve_left (fun z => b33 z.1)
          have hne : pb A B i ≠ 0 := by rw [← hy2]; exact b33
          refine go_aload_n dX11_areAlike_36 rfl ?_
          refine go_iload_n dX11_areAlike_37 rfl ?_
          refine go_iload dX11_areAlike_38 rfl ?_
          refine go_cvP2 (M2 := mX11_letterOf) dX11_areAlike_40 ml_X11_210 mv_X11_letterOf sh_0 rfl rfl (Nat.le_of_ble_eq_true rfl) (by decide) (saa i (by omega)) ?_
          refine go_aload_n dX11_areAlike_43 rfl ?_
          refine go_iload_n dX11_areAlike_44 rfl ?_
          refine go_iload dX11_areAlike_45 rfl ?_
          refine go_cvP2 (M2 := mX11_letterOf) dX11_areAlike_47 ml_X11_210 mv_X11_letterOf sh_0 rfl rfl (Nat.le_of_ble_eq_true rfl) (by decide) (sab i (by omega)) ?_
          refine go_icmp_ne (tgt := 57) dX11_areAlike_50 (by decide) (ln_at_R ra) (ln_at_R rb) (fun b50 => ?_) (fun b50 => ?_)
          · skip
            refine go_iconst dX11_areAlike_57 ?_
            refine go_ist3 dX11_areAlike_58 (Nat.le_of_ble_eq_true rfl) rfl ?_
            refine go_inc4 dX11_areAlike_59 (Nat.le_of_ble_eq_true rfl) rfl ?_
            refine go_goto (tgt := 22) dX11_areAlike_62 (by decide) ?_
            refine ih (i + 1) _ (Or.inr ⟨hl, ?_⟩) (by omega) (by omega)
            rw [pb_step (by omega) hne]
            first | (rw [if_pos b50]; done) | (rw [if_neg b50]; done)
          · skip
            refine go_iconst dX11_areAlike_53 ?_
            refine go_goto (tgt := 58) dX11_areAlike_54 (by decide) ?_
            refine go_ist3 dX11_areAlike_58 (Nat.le_of_ble_eq_true rfl) rfl ?_
            refine go_inc4 dX11_areAlike_59 (Nat.le_of_ble_eq_true rfl) rfl ?_
            refine go_goto (tgt := 22) dX11_areAlike_62 (by decide) ?_
            refine ih (i + 1) _ (Or.inr ⟨hl, ?_⟩) (by omega) (by omega)
            rw [pb_step (by omega) hne]
            first | (rw [if_pos b50]; done) | (rw [if_neg b50]; done)
  refine am_ev (by decide) [some (.ref 0), some (.int (iZ ((a : Int)))), some (.int (iZ ((b : Int)))), none, none] rfl (Nat.le_of_ble_eq_true rfl) ?_
  refine go_aload_n dX11_areAlike_0 rfl ?_
  refine go_iload_n dX11_areAlike_1 rfl ?_
  refine go_cvP1 (M2 := mX11_lengthOf) dX11_areAlike_2 ml_X11_207 mv_X11_lengthOf sh_0 rfl rfl (Nat.le_of_ble_eq_true rfl) (by decide) (sla) ?_
  refine go_aload_n dX11_areAlike_5 rfl ?_
  refine go_iload_n dX11_areAlike_6 rfl ?_
  refine go_cvP1 (M2 := mX11_lengthOf) dX11_areAlike_7 ml_X11_207 mv_X11_lengthOf sh_0 rfl rfl (Nat.le_of_ble_eq_true rfl) (by decide) (slb) ?_
  refine go_icmp_ne (tgt := 17) dX11_areAlike_10 (by decide) (by unfold inR; omega) (by unfold inR; omega) (fun b10 => ?_) (fun b10 => ?_)
  · skip
    refine go_iconst dX11_areAlike_17 ?_
    refine go_ist3 dX11_areAlike_18 (Nat.le_of_ble_eq_true rfl) rfl ?_
    refine go_iconst dX11_areAlike_19 ?_
    refine go_ist4 dX11_areAlike_20 (Nat.le_of_ble_eq_true rfl) rfl ?_
    refine loop (A.length + 1) 0 _ ?_ (by omega) (by omega)
    first
      | exact Or.inl ⟨rfl, fun z => b10 (by rw [z])⟩
      | (refine Or.inr ⟨by omega, ?_⟩; rw [pb_0, if_pos (by omega)])
  · skip
    refine go_iconst dX11_areAlike_13 ?_
    refine go_goto (tgt := 18) dX11_areAlike_14 (by decide) ?_
    refine go_ist3 dX11_areAlike_18 (Nat.le_of_ble_eq_true rfl) rfl ?_
    refine go_iconst dX11_areAlike_19 ?_
    refine go_ist4 dX11_areAlike_20 (Nat.le_of_ble_eq_true rfl) rfl ?_
    refine loop (A.length + 1) 0 _ ?_ (by omega) (by omega)
    first
      | exact Or.inl ⟨rfl, fun z => b10 (by rw [z])⟩
      | (refine Or.inr ⟨by omega, ?_⟩; rw [pb_0, if_pos (by omega)])
/-- k is the least part that is this word -/
def isL (S : List (List Int)) (w : List Int) (k : Nat) : Prop := okp S k ∧ pt S k = w ∧ ∀ j, j < k → okp S j → pt S j ≠ w
theorem isL.uniq {S : List (List Int)} {w : List Int} {k k' : Nat} (h : isL S w k) (h' : isL S w k') : k = k' := by
  rcases Nat.lt_trichotomy k k' with z | z | z
  · exact absurd h.2.1 (h'.2.2 k z h.1)
  · exact z
  · exact absurd h'.2.1 (h.2.2 k' z h'.1)
theorem ev_X11_leastOf {σ : am_St} {L R : List (List Int)} {m p : Nat} (h : tbM σ L R m) (hp : okp (mt_sg R m) p) (hp4 : p < 40) : am_Ev SH mX11_leastOf 3 [.ref 0, .int (iZ (p : Int))] σ (am_rI (fun x σ2 => (∃ k : Nat, x = (k : Int) ∧ k < 40 ∧ isL (mt_sg R m) (pt (mt_sg R m) p) k) ∧ σ2 = σ)) := by
  have loop : ∀ (m2 : Nat) (k : Nat), (∀ j, j < k → okp (mt_sg R m) j → pt (mt_sg R m) j ≠ pt (mt_sg R m) p) → p - k < m2 → k ≤ p → am_Go SH mX11_leastOf 3 (am_rI (fun x σ2 => (∃ k : Nat, x = (k : Int) ∧ k < 40 ∧ isL (mt_sg R m) (pt (mt_sg R m) p) k) ∧ σ2 = σ)) 2 [some (.ref 0), some (.int (iZ (p : Int))), some (.int (iZ (k : Int)))] [] σ := by
    intro m2
    induction m2 with
    | zero => intro k _ hm; exact absurd hm (by omega)
    | succ m2 ih =>
      intro k hy hm hk
      have nxt : ¬ (okp (mt_sg R m) k ∧ pt (mt_sg R m) k = pt (mt_sg R m) p) → am_Go SH mX11_leastOf 3 (am_rI (fun x σ2 => (∃ k : Nat, x = (k : Int) ∧ k < 40 ∧ isL (mt_sg R m) (pt (mt_sg R m) p) k) ∧ σ2 = σ)) 19 [some (.ref 0), some (.int (iZ (p : Int))), some (.int (iZ (k : Int)))] [] σ := by
        intro hn
        have hkp : k ≠ p := fun z => hn (by rw [z]; exact ⟨hp, rfl⟩)
        refine go_inc2 dX11_leastOf_19 (Nat.le_of_ble_eq_true rfl) rfl ?_
        refine go_goto (tgt := 2) dX11_leastOf_22 (by decide) ?_
        refine ih (k + 1) (fun j hj hjo hje => ?_) (by omega) (by omega)
        by_cases e : j = k
        · subst e; exact hn ⟨hjo, hje⟩
        · exact hy j (by omega) hjo hje
      by_cases hok : okp (mt_sg R m) k
      · by_cases heq : pt (mt_sg R m) k = pt (mt_sg R m) p
        · skip
          refine go_aload_n dX11_leastOf_2 rfl ?_
          refine go_iload_n dX11_leastOf_3 rfl ?_
          refine go_cvP1 (M2 := mX11_isPart) dX11_leastOf_4 ml_X11_213 mv_X11_isPart sh_0 rfl rfl (Nat.le_of_ble_eq_true rfl) (by decide) (ev_X11_isPart h (by omega)) ?_
          rw [if_pos hok]
          refine go_if_eq (tgt := 19) dX11_leastOf_7 (by decide) (by unfold inR; omega) (fun b7 => ?_) (fun b7 => ?_)
          · skip
            exact absurd b7 (by decide)
          · skip
            refine go_aload_n dX11_leastOf_10 rfl ?_
            refine go_iload_n dX11_leastOf_11 rfl ?_
            refine go_iload_n dX11_leastOf_12 rfl ?_
            refine go_cvP2 (M2 := mX11_areAlike) dX11_leastOf_13 ml_X11_216 mv_X11_areAlike sh_0 rfl rfl (Nat.le_of_ble_eq_true rfl) (by decide) (ev_X11_areAlike h hok hp) ?_
            rw [if_pos heq]
            refine go_if_ne (tgt := 25) dX11_leastOf_16 (by decide) (by unfold inR; omega) (fun b16 => ?_) (fun b16 => ?_)
            · skip
              refine go_iload_n dX11_leastOf_25 rfl ?_
              refine go_retI dX11_leastOf_26 rfl ?_
              exact ⟨⟨k, rfl, by omega, hok, heq, hy⟩, rfl⟩
            · skip
              exact absurd b16 (by decide)
        · have hn := nxt (fun z => heq z.2)
          refine go_aload_n dX11_leastOf_2 rfl ?_
          refine go_iload_n dX11_leastOf_3 rfl ?_
          refine go_cvP1 (M2 := mX11_isPart) dX11_leastOf_4 ml_X11_213 mv_X11_isPart sh_0 rfl rfl (Nat.le_of_ble_eq_true rfl) (by decide) (ev_X11_isPart h (by omega)) ?_
          rw [if_pos hok]
          refine go_if_eq (tgt := 19) dX11_leastOf_7 (by decide) (by unfold inR; omega) (fun b7 => ?_) (fun b7 => ?_)
          · skip
            exact absurd b7 (by decide)
          · skip
            refine go_aload_n dX11_leastOf_10 rfl ?_
            refine go_iload_n dX11_leastOf_11 rfl ?_
            refine go_iload_n dX11_leastOf_12 rfl ?_
            refine go_cvP2 (M2 := mX11_areAlike) dX11_leastOf_13 ml_X11_216 mv_X11_areAlike sh_0 rfl rfl (Nat.le_of_ble_eq_true rfl) (by decide) (ev_X11_areAlike h hok hp) ?_
            rw [if_neg heq]
            refine go_if_ne (tgt := 25) dX11_leastOf_16 (by decide) (by unfold inR; omega) (fun b16 => ?_) (fun b16 => ?_)
            · skip
              exact absurd rfl b16
            · skip
              exact hn
      · have hn := nxt (fun z => hok z.1)
        refine go_aload_n dX11_leastOf_2 rfl ?_
        refine go_iload_n dX11_leastOf_3 rfl ?_
        refine go_cvP1 (M2 := mX11_isPart) dX11_leastOf_4 ml_X11_213 mv_X11_isPart sh_0 rfl rfl (Nat.le_of_ble_eq_true rfl) (by decide) (ev_X11_isPart h (by omega)) ?_
        rw [if_neg hok]
        refine go_if_eq (tgt := 19) dX11_leastOf_7 (by decide) (by unfold inR; omega) (fun b7 => ?_) (fun b7 => ?_)
        · skip
          exact hn
        · skip
          exact absurd rfl b7
  refine am_ev (by decide) [some (.ref 0), some (.int (iZ ((p : Int)))), none] rfl (Nat.le_of_ble_eq_true rfl) ?_
  refine go_iconst dX11_leastOf_0 ?_
  refine go_ist2 dX11_leastOf_1 (Nat.le_of_ble_eq_true rfl) rfl ?_
  exact loop (p + 1) 0 (fun j hj => absurd hj (by omega)) (by omega) (by omega)
theorem ev_X11_partBegins {σ : am_St} {L R : List (List Int)} {m a b : Nat} (h : tbM σ L R m) (ha : okp (mt_sg R m) a) (hb : b < R.length) : am_Ev SH mX11_partBegins 2 [.ref 0, .int (iZ (a : Int)), .int (iZ (b : Int))] σ (am_rI (fun x σ2 => x = (if pt (mt_sg R m) a <+: (mt_sg R m).getD b [] then 1 else 0) ∧ σ2 = σ)) := by
  have h4a := (h.pk a).2
  have h4b := (h.sg b).2
  have ra := okl_R (h.pk a).1
  have rb := okl_R (h.sg b).1
  have sla := ev_X11_lengthOf h ha
  have slb := ev_X11_signLength h hb
  have saa := fun i => ev_X11_letterOf (i := i) h ha
  have sab := fun i => ev_X11_signAt (p := i) h hb
  generalize hA : pt (mt_sg R m) a = A at *
  generalize hB : (mt_sg R m).getD b [] = B at *
  have loop : ∀ (m2 : Nat) (i : Nat) (y : Int), y = pb A B i → A.length - i < m2 → i ≤ A.length → am_Go SH mX11_partBegins 2 (am_rI (fun x σ2 => x = (if A <+: B then 1 else 0) ∧ σ2 = σ)) 22 [some (.ref 0), some (.int (iZ (a : Int))), some (.int (iZ (b : Int))), some (.int (iZ y)), some (.int (iZ (i : Int)))] [] σ := by
    intro m2
    induction m2 with
    | zero => intro i y _ hm; exact absurd hm (by omega)
    | succ m2 ih =>
      intro i y hy hm hi
      have hy01 : y = 0 ∨ y = 1 := by rw [hy]; exact pb_01 _ _ _
      refine go_iload dX11_partBegins_22 rfl ?_
      refine go_aload_n dX11_partBegins_24 rfl ?_
      refine go_iload_n dX11_partBegins_25 rfl ?_
      refine go_cvP1 (M2 := mX11_lengthOf) dX11_partBegins_26 ml_X11_207 mv_X11_lengthOf sh_0 rfl rfl (Nat.le_of_ble_eq_true rfl) (by decide) (sla) ?_
      refine go_icmp_ge (tgt := 65) dX11_partBegins_29 (by decide) (by unfold inR; omega) (by unfold inR; omega) (fun b29 => ?_) (fun b29 => ?_)
      · skip
        refine go_iload_n dX11_partBegins_65 rfl ?_
        refine go_retZ dX11_partBegins_66 rfl hy01 ?_
        exact ⟨by rw [hy]; exact pb_end (by first | exact Or.inl (by omega) | exact Or.inr (by rw [← hy]; exact b33)), rfl⟩
      · skip
        refine go_iload_n dX11_partBegins_32 rfl ?_
        refine go_if_eq (tgt := 65) dX11_partBegins_33 (by decide) (by unfold inR; omega) (fun b33 => ?_) (fun b33 => ?_)
        · skip
          refine go_iload_n dX11_partBegins_65 rfl ?_
          refine go_retZ dX11_partBegins_66 rfl hy01 ?_
          exact ⟨by rw [hy]; exact pb_end (by first | exact Or.inl (by omega) | exact Or.inr (by rw [← hy]; exact b33)), rfl⟩
        · skip
          have hne : pb A B i ≠ 0 := by rw [← hy]; exact b33
          have hl := pb_len hne
          refine go_aload_n dX11_partBegins_36 rfl ?_
          refine go_iload_n dX11_partBegins_37 rfl ?_
          refine go_iload dX11_partBegins_38 rfl ?_
          refine go_cvP2 (M2 := mX11_letterOf) dX11_partBegins_40 ml_X11_210 mv_X11_letterOf sh_0 rfl rfl (Nat.le_of_ble_eq_true rfl) (by decide) (saa i (by omega)) ?_
          refine go_aload_n dX11_partBegins_43 rfl ?_
          refine go_iload_n dX11_partBegins_44 rfl ?_
          refine go_iload dX11_partBegins_45 rfl ?_
          refine go_cvP2 (M2 := mX11_signAt) dX11_partBegins_47 ml_X11_140 mv_X11_signAt sh_0 rfl rfl (Nat.le_of_ble_eq_true rfl) (by decide) (sab i (by omega)) ?_
          refine go_icmp_ne (tgt := 57) dX11_partBegins_50 (by decide) (ln_at_R ra) (ln_at_R rb) (fun b50 => ?_) (fun b50 => ?_)
          · skip
            refine go_iconst dX11_partBegins_57 ?_
            refine go_ist3 dX11_partBegins_58 (Nat.le_of_ble_eq_true rfl) rfl ?_
            refine go_inc4 dX11_partBegins_59 (Nat.le_of_ble_eq_true rfl) rfl ?_
            refine go_goto (tgt := 22) dX11_partBegins_62 (by decide) ?_
            refine ih (i + 1) _ ?_ (by omega) (by omega)
            rw [pb_step (by omega) hne]
            first | (rw [if_pos b50]; done) | (rw [if_neg b50]; done)
          · skip
            refine go_iconst dX11_partBegins_53 ?_
            refine go_goto (tgt := 58) dX11_partBegins_54 (by decide) ?_
            refine go_ist3 dX11_partBegins_58 (Nat.le_of_ble_eq_true rfl) rfl ?_
            refine go_inc4 dX11_partBegins_59 (Nat.le_of_ble_eq_true rfl) rfl ?_
            refine go_goto (tgt := 22) dX11_partBegins_62 (by decide) ?_
            refine ih (i + 1) _ ?_ (by omega) (by omega)
            rw [pb_step (by omega) hne]
            first | (rw [if_pos b50]; done) | (rw [if_neg b50]; done)
  refine am_ev (by decide) [some (.ref 0), some (.int (iZ ((a : Int)))), some (.int (iZ ((b : Int)))), none, none] rfl (Nat.le_of_ble_eq_true rfl) ?_
  refine go_aload_n dX11_partBegins_0 rfl ?_
  refine go_iload_n dX11_partBegins_1 rfl ?_
  refine go_cvP1 (M2 := mX11_lengthOf) dX11_partBegins_2 ml_X11_207 mv_X11_lengthOf sh_0 rfl rfl (Nat.le_of_ble_eq_true rfl) (by decide) (sla) ?_
  refine go_aload_n dX11_partBegins_5 rfl ?_
  refine go_iload_n dX11_partBegins_6 rfl ?_
  refine go_cvP1 (M2 := mX11_signLength) dX11_partBegins_7 ml_X11_137 mv_X11_signLength sh_0 rfl rfl (Nat.le_of_ble_eq_true rfl) (by decide) (slb) ?_
  refine go_icmp_gt (tgt := 17) dX11_partBegins_10 (by decide) (by unfold inR; omega) (by unfold inR; omega) (fun b10 => ?_) (fun b10 => ?_)
  · skip
    refine go_iconst dX11_partBegins_17 ?_
    refine go_ist3 dX11_partBegins_18 (Nat.le_of_ble_eq_true rfl) rfl ?_
    refine go_iconst dX11_partBegins_19 ?_
    refine go_ist4 dX11_partBegins_20 (Nat.le_of_ble_eq_true rfl) rfl ?_
    refine loop (A.length + 1) 0 _ ?_ (by omega) (by omega)
    rw [pb_0]
    first | (rw [if_pos (by omega)]; done) | (rw [if_neg (by omega)]; done)
  · skip
    refine go_iconst dX11_partBegins_13 ?_
    refine go_goto (tgt := 18) dX11_partBegins_14 (by decide) ?_
    refine go_ist3 dX11_partBegins_18 (Nat.le_of_ble_eq_true rfl) rfl ?_
    refine go_iconst dX11_partBegins_19 ?_
    refine go_ist4 dX11_partBegins_20 (Nat.le_of_ble_eq_true rfl) rfl ?_
    refine loop (A.length + 1) 0 _ ?_ (by omega) (by omega)
    rw [pb_0]
    first | (rw [if_pos (by omega)]; done) | (rw [if_neg (by omega)]; done)
theorem ev_X11_signBegins {σ : am_St} {L R : List (List Int)} {m a b : Nat} (h : tbM σ L R m) (ha : a < R.length) (hb : okp (mt_sg R m) b) : am_Ev SH mX11_signBegins 2 [.ref 0, .int (iZ (a : Int)), .int (iZ (b : Int))] σ (am_rI (fun x σ2 => x = (if (mt_sg R m).getD a [] <+: pt (mt_sg R m) b then 1 else 0) ∧ σ2 = σ)) := by
  have h4a := (h.sg a).2
  have h4b := (h.pk b).2
  have ra := okl_R (h.sg a).1
  have rb := okl_R (h.pk b).1
  have sla := ev_X11_signLength h ha
  have slb := ev_X11_lengthOf h hb
  have saa := fun i => ev_X11_signAt (p := i) h ha
  have sab := fun i => ev_X11_letterOf (i := i) h hb
  generalize hA : (mt_sg R m).getD a [] = A at *
  generalize hB : pt (mt_sg R m) b = B at *
  have loop : ∀ (m2 : Nat) (i : Nat) (y : Int), y = pb A B i → A.length - i < m2 → i ≤ A.length → am_Go SH mX11_signBegins 2 (am_rI (fun x σ2 => x = (if A <+: B then 1 else 0) ∧ σ2 = σ)) 22 [some (.ref 0), some (.int (iZ (a : Int))), some (.int (iZ (b : Int))), some (.int (iZ y)), some (.int (iZ (i : Int)))] [] σ := by
    intro m2
    induction m2 with
    | zero => intro i y _ hm; exact absurd hm (by omega)
    | succ m2 ih =>
      intro i y hy hm hi
      have hy01 : y = 0 ∨ y = 1 := by rw [hy]; exact pb_01 _ _ _
      refine go_iload dX11_signBegins_22 rfl ?_
      refine go_aload_n dX11_signBegins_24 rfl ?_
      refine go_iload_n dX11_signBegins_25 rfl ?_
      refine go_cvP1 (M2 := mX11_signLength) dX11_signBegins_26 ml_X11_137 mv_X11_signLength sh_0 rfl rfl (Nat.le_of_ble_eq_true rfl) (by decide) (sla) ?_
      refine go_icmp_ge (tgt := 65) dX11_signBegins_29 (by decide) (by unfold inR; omega) (by unfold inR; omega) (fun b29 => ?_) (fun b29 => ?_)
      · skip
        refine go_iload_n dX11_signBegins_65 rfl ?_
        refine go_retZ dX11_signBegins_66 rfl hy01 ?_
        exact ⟨by rw [hy]; exact pb_end (by first | exact Or.inl (by omega) | exact Or.inr (by rw [← hy]; exact b33)), rfl⟩
      · skip
        refine go_iload_n dX11_signBegins_32 rfl ?_
        refine go_if_eq (tgt := 65) dX11_signBegins_33 (by decide) (by unfold inR; omega) (fun b33 => ?_) (fun b33 => ?_)
        · skip
          refine go_iload_n dX11_signBegins_65 rfl ?_
          refine go_retZ dX11_signBegins_66 rfl hy01 ?_
          exact ⟨by rw [hy]; exact pb_end (by first | exact Or.inl (by omega) | exact Or.inr (by rw [← hy]; exact b33)), rfl⟩
        · skip
          have hne : pb A B i ≠ 0 := by rw [← hy]; exact b33
          have hl := pb_len hne
          refine go_aload_n dX11_signBegins_36 rfl ?_
          refine go_iload_n dX11_signBegins_37 rfl ?_
          refine go_iload dX11_signBegins_38 rfl ?_
          refine go_cvP2 (M2 := mX11_signAt) dX11_signBegins_40 ml_X11_140 mv_X11_signAt sh_0 rfl rfl (Nat.le_of_ble_eq_true rfl) (by decide) (saa i (by omega)) ?_
          refine go_aload_n dX11_signBegins_43 rfl ?_
          refine go_iload_n dX11_signBegins_44 rfl ?_
          refine go_iload dX11_signBegins_45 rfl ?_
          refine go_cvP2 (M2 := mX11_letterOf) dX11_signBegins_47 ml_X11_210 mv_X11_letterOf sh_0 rfl rfl (Nat.le_of_ble_eq_true rfl) (by decide) (sab i (by omega)) ?_
          refine go_icmp_ne (tgt := 57) dX11_signBegins_50 (by decide) (ln_at_R ra) (ln_at_R rb) (fun b50 => ?_) (fun b50 => ?_)
          · skip
            refine go_iconst dX11_signBegins_57 ?_
            refine go_ist3 dX11_signBegins_58 (Nat.le_of_ble_eq_true rfl) rfl ?_
            refine go_inc4 dX11_signBegins_59 (Nat.le_of_ble_eq_true rfl) rfl ?_
            refine go_goto (tgt := 22) dX11_signBegins_62 (by decide) ?_
            refine ih (i + 1) _ ?_ (by omega) (by omega)
            rw [pb_step (by omega) hne]
            first | (rw [if_pos b50]; done) | (rw [if_neg b50]; done)
          · skip
            refine go_iconst dX11_signBegins_53 ?_
            refine go_goto (tgt := 58) dX11_signBegins_54 (by decide) ?_
            refine go_ist3 dX11_signBegins_58 (Nat.le_of_ble_eq_true rfl) rfl ?_
            refine go_inc4 dX11_signBegins_59 (Nat.le_of_ble_eq_true rfl) rfl ?_
            refine go_goto (tgt := 22) dX11_signBegins_62 (by decide) ?_
            refine ih (i + 1) _ ?_ (by omega) (by omega)
            rw [pb_step (by omega) hne]
            first | (rw [if_pos b50]; done) | (rw [if_neg b50]; done)
  refine am_ev (by decide) [some (.ref 0), some (.int (iZ ((a : Int)))), some (.int (iZ ((b : Int)))), none, none] rfl (Nat.le_of_ble_eq_true rfl) ?_
  refine go_aload_n dX11_signBegins_0 rfl ?_
  refine go_iload_n dX11_signBegins_1 rfl ?_
  refine go_cvP1 (M2 := mX11_signLength) dX11_signBegins_2 ml_X11_137 mv_X11_signLength sh_0 rfl rfl (Nat.le_of_ble_eq_true rfl) (by decide) (sla) ?_
  refine go_aload_n dX11_signBegins_5 rfl ?_
  refine go_iload_n dX11_signBegins_6 rfl ?_
  refine go_cvP1 (M2 := mX11_lengthOf) dX11_signBegins_7 ml_X11_207 mv_X11_lengthOf sh_0 rfl rfl (Nat.le_of_ble_eq_true rfl) (by decide) (slb) ?_
  refine go_icmp_gt (tgt := 17) dX11_signBegins_10 (by decide) (by unfold inR; omega) (by unfold inR; omega) (fun b10 => ?_) (fun b10 => ?_)
  · skip
    refine go_iconst dX11_signBegins_17 ?_
    refine go_ist3 dX11_signBegins_18 (Nat.le_of_ble_eq_true rfl) rfl ?_
    refine go_iconst dX11_signBegins_19 ?_
    refine go_ist4 dX11_signBegins_20 (Nat.le_of_ble_eq_true rfl) rfl ?_
    refine loop (A.length + 1) 0 _ ?_ (by omega) (by omega)
    rw [pb_0]
    first | (rw [if_pos (by omega)]; done) | (rw [if_neg (by omega)]; done)
  · skip
    refine go_iconst dX11_signBegins_13 ?_
    refine go_goto (tgt := 18) dX11_signBegins_14 (by decide) ?_
    refine go_ist3 dX11_signBegins_18 (Nat.le_of_ble_eq_true rfl) rfl ?_
    refine go_iconst dX11_signBegins_19 ?_
    refine go_ist4 dX11_signBegins_20 (Nat.le_of_ble_eq_true rfl) rfl ?_
    refine loop (A.length + 1) 0 _ ?_ (by omega) (by omega)
    rw [pb_0]
    first | (rw [if_pos (by omega)]; done) | (rw [if_neg (by omega)]; done)

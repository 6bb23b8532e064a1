/-! ===== Match.decode ===== -/
theorem ev_X2_decode {σ : am_St} {k n k2 n2 k3 n3 : Nat} {xs ys : List Int} {S : List (List Int)} (h : hold σ k n (S.map enc)) (g : hold σ k2 n2 xs) (r : hold σ k3 n3 ys) (hS : okw S) (hS1 : S.length < 1000) (hn : n2 < 1000000) (hx3 : xs.length ≤ n3)
    (d1 : k ≠ k3 ∧ k ≠ k3 + 1 ∧ k + 1 ≠ k3 ∧ k + 1 ≠ k3 + 1) (d2 : k2 ≠ k3 ∧ k2 ≠ k3 + 1 ∧ k2 + 1 ≠ k3 ∧ k2 + 1 ≠ k3 + 1) : am_Ev SH mX2_decode 3 [.ref k, .ref k2, .ref k3] σ (am_rI (fun x σ2 => x = (mt_dec S xs.length xs 0).2 ∧ hold σ2 k3 n3 (mt_dec S xs.length xs 0).1 ∧ am_off [k3, k3 + 1] σ σ2)) := by
  generalize hT : mt_dec S xs.length xs 0 = T
  have hk := h.1
  have hk2 := g.1
  have hk3 := r.1
  have hl5 := g.2.2.2.2.1
  have loop : ∀ (m : Nat) (st : Nat) (row : List Int) (p : Int) (σ1 : am_St) (w : Option Value), xs.length - st < m → st ≤ xs.length → row.length = st → 0 ≤ p → p ≤ xs.length → (∀ y ∈ row, inR y) → hold σ1 k3 n3 row → am_off [k3, k3 + 1] σ σ1 → row ++ (mt_dec S (xs.length - st) (xs.drop p.toNat) p).1 = T.1 → (mt_dec S (xs.length - st) (xs.drop p.toNat) p).2 = T.2 → am_Go SH mX2_decode 3 (am_rI (fun x σ2 => x = T.2 ∧ hold σ2 k3 n3 T.1 ∧ am_off [k3, k3 + 1] σ σ2)) 9 [some (.ref k), some (.ref k2), some (.ref k3), some (.int (iZ p)), some (.int (iZ st)), w] [] σ1 := by
    intro m
    induction m with
    | zero => intro st row p σ1 w hm; exact absurd hm (by omega)
    | succ m ih =>
      intro st row p σ1 w hm hst hrow h0 hp hrR hr ho e1 e2
      have h' := h.off ho (by simp; omega) (by simp; omega)
      have g' := g.off ho (by simp; omega) (by simp; omega)
      refine go_iload dX2_decode_9 rfl ?_
      refine go_aload_n dX2_decode_11 rfl ?_
      refine go_cvP0 (M2 := mX1_size) dX2_decode_12 ml_X2_24 mv_X1_size (by assumption) rfl rfl (Nat.le_of_ble_eq_true rfl) (by decide) (ev_X1_size g') ?_
      refine go_icmp_ge (tgt := 66) dX2_decode_15 (by decide) (by unfold inR; omega) (by unfold inR; omega) (fun b15 => ?_) (fun b15 => ?_)
      · skip
        refine go_iload_n dX2_decode_66 rfl ?_
        refine go_retI dX2_decode_67 rfl ?_
        refine ⟨?_, ?_, ho⟩
        · rw [← e2]; cases hq : xs.length - st with
          | zero => rfl
          | succ f =>
            have : xs.drop p.toNat = [] := List.drop_eq_nil_of_le (by omega)
            unfold mt_dec; rw [if_pos this]
        · rw [← e1]; cases hq : xs.length - st with
          | zero => simpa [mt_dec] using hr
          | succ f =>
            have : xs.drop p.toNat = [] := List.drop_eq_nil_of_le (by omega)
            unfold mt_dec; rw [if_pos this]; simpa using hr
      · skip
        refine go_iload_n dX2_decode_18 rfl ?_
        refine go_aload_n dX2_decode_19 rfl ?_
        refine go_cvP0 (M2 := mX1_size) dX2_decode_20 ml_X2_24 mv_X1_size (by assumption) rfl rfl (Nat.le_of_ble_eq_true rfl) (by decide) (ev_X1_size g') ?_
        refine go_icmp_ge (tgt := 66) dX2_decode_23 (by decide) (by unfold inR; omega) (by unfold inR; omega) (fun b23 => ?_) (fun b23 => ?_)
        · skip
          refine go_iload_n dX2_decode_66 rfl ?_
          refine go_retI dX2_decode_67 rfl ?_
          refine ⟨?_, ?_, ho⟩
          · rw [← e2]; cases hq : xs.length - st with
            | zero => rfl
            | succ f =>
              have : xs.drop p.toNat = [] := List.drop_eq_nil_of_le (by omega)
              unfold mt_dec; rw [if_pos this]
          · rw [← e1]; cases hq : xs.length - st with
            | zero => simpa [mt_dec] using hr
            | succ f =>
              have : xs.drop p.toNat = [] := List.drop_eq_nil_of_le (by omega)
              unfold mt_dec; rw [if_pos this]; simpa using hr
        · skip
          refine go_aload_n dX2_decode_26 rfl ?_
          refine go_aload_n dX2_decode_27 rfl ?_
          refine go_iload_n dX2_decode_28 rfl ?_
          refine go_csP3 (M2 := mX2_longest) dX2_decode_29 ml_X2_36 ms_X2_longest (Nat.le_of_ble_eq_true rfl) (by decide) (ev_X2_longest h' g' hS h0 (by omega) hn) ?_
          obtain ⟨f, hf⟩ : ∃ f, xs.length - st = f + 1 := ⟨xs.length - st - 1, by omega⟩
          have hne : xs.drop p.toNat ≠ [] := by intro q; have := congrArg List.length q; rw [List.length_drop] at this; simp at this; omega
          rw [hf] at e1 e2
          unfold mt_dec at e1 e2
          rw [if_neg hne] at e1 e2
          generalize hL : mt_long S (xs.drop p.toNat) = Lg at *
          have hb := mt_long_bd S (xs.drop p.toNat)
          rw [hL] at hb
          refine go_ist5 dX2_decode_32 (Nat.le_of_ble_eq_true rfl) rfl ?_
          refine go_iload dX2_decode_34 rfl ?_
          refine go_iconst dX2_decode_36 ?_
          refine go_icmp_ne (tgt := 42) dX2_decode_37 (by decide) (by unfold inR; omega) (by unfold inR; omega) (fun b37 => ?_) (fun b37 => ?_)
          · skip
            refine go_aload_n dX2_decode_42 rfl ?_
            refine go_iload dX2_decode_43 rfl ?_
            rw [if_neg b37] at e1 e2
            refine go_cvV1 (M2 := mX1_add) dX2_decode_45 ml_X2_40 mv_X1_add (by assumption) rfl rfl (Nat.le_of_ble_eq_true rfl) (by decide) (ev_X1_add hr (item := Lg) (by unfold inR; omega) (by omega)) (fun σ2 hq => ?_)
            have ho2 := ho.tr hq.2
            have h2 := h.off ho2 (by simp; omega) (by simp; omega)
            refine go_iload_n dX2_decode_48 rfl ?_
            refine go_aload_n dX2_decode_49 rfl ?_
            refine go_iload dX2_decode_50 rfl ?_
            refine go_cvP1 (M2 := mX1_at) dX2_decode_52 ml_X2_15 mv_X1_at (by assumption) rfl rfl (Nat.le_of_ble_eq_true rfl) (by decide) (ev_X1_at h2 (by unfold inR; omega)) ?_
            rw [ln_at_map (by omega) (by omega)]
            refine go_csP1 (M2 := mX9_size) dX2_decode_55 ml_X2_9 ms_X9_size (Nat.le_of_ble_eq_true rfl) (by decide) (ev_X9_size (enc_inR (okw_get hS _).1 (okw_get hS _).2)) ?_
            rw [wd_sz_enc (okw_get hS _).1 (okw_get hS _).2]
            refine go_iadd dX2_decode_58 ?_
            refine go_ist3 dX2_decode_59 (Nat.le_of_ble_eq_true rfl) rfl ?_
            refine go_inc4 dX2_decode_60 (Nat.le_of_ble_eq_true rfl) rfl ?_
            refine go_goto (tgt := 9) dX2_decode_63 (by decide) ?_
            have hp2 : p + ((S.getD Lg.toNat []).length : Int) ≤ xs.length := by
              have := mt_long_fit S (xs.drop p.toNat) (by rw [hL]; omega)
              rw [hL, List.length_drop] at this
              omega
            rw [show (st : Int) + 1 = ((st + 1 : Nat) : Int) by omega]
            refine ih (st + 1) (row ++ [Lg]) (p + (S.getD Lg.toNat []).length) σ2 _ (by omega) (by omega) (by simp; omega) (by omega) hp2 (fun y hy => ?_) hq.1 ho2 ?_ ?_
            · rcases List.mem_append.mp hy with hy | hy
              · exact hrR y hy
              · simp at hy; rw [hy]; unfold inR; omega
            · rw [← e1, show xs.length - (st + 1) = f by omega, show (p + ((S.getD Lg.toNat []).length : Int)).toNat = p.toNat + (S.getD Lg.toNat []).length by omega, ← List.drop_drop]
              simp
            · rw [← e2, show xs.length - (st + 1) = f by omega, show (p + ((S.getD Lg.toNat []).length : Int)).toNat = p.toNat + (S.getD Lg.toNat []).length by omega, ← List.drop_drop]
          · skip
            refine go_iload_n dX2_decode_40 rfl ?_
            refine go_retI dX2_decode_41 rfl ?_
            rw [b37] at e1 e2
            rw [if_pos rfl] at e1 e2
            exact ⟨e2, by rw [← e1]; simpa using hr, ho⟩
  refine am_ev (by decide) [some (.ref k), some (.ref k2), some (.ref k3), none, none, none] rfl (Nat.le_of_ble_eq_true rfl) ?_
  refine go_aload_n dX2_decode_0 rfl ?_
  refine go_cvV0 (M2 := mX1_clear) dX2_decode_1 ml_X2_33 mv_X1_clear (by assumption) rfl rfl (Nat.le_of_ble_eq_true rfl) (by decide) (ev_X1_clear r) (fun σ1 hq => ?_)
  refine go_iconst dX2_decode_4 ?_
  refine go_ist3 dX2_decode_5 (Nat.le_of_ble_eq_true rfl) rfl ?_
  refine go_iconst dX2_decode_6 ?_
  refine go_ist4 dX2_decode_7 (Nat.le_of_ble_eq_true rfl) rfl ?_
  exact loop (xs.length + 1) 0 [] 0 σ1 none (by omega) (by omega) rfl (by omega) (by omega) (fun y hy => by simp at hy) hq.1 hq.2 (by rw [← hT]; rfl) (by rw [← hT]; rfl)

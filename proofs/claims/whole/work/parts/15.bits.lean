/-! ===== bits (fa_: pasted from the kit's laws/NUMBERS.to-paste) ===== -/
theorem fa_lit (n : Nat) : (OfNat.ofNat n : Int32) = nI n := rfl
theorem fa_litL (n : Nat) : (OfNat.ofNat n : Int64) = lN n := rfl
/-! ===== bits of a number: 'or', masks, one bit ===== -/
theorem fa_and (a b : Nat) : nI a &&& nI b = nI (a &&& b) := by
  apply Int32.toBitVec_inj.1
  show BitVec.ofNat 32 a &&& BitVec.ofNat 32 b = BitVec.ofNat 32 (a &&& b)
  apply BitVec.eq_of_getLsbD_eq
  intro i hi
  simp [hi]
theorem fa_or (a b : Nat) : nI a ||| nI b = nI (a ||| b) := by
  apply Int32.toBitVec_inj.1
  show BitVec.ofNat 32 a ||| BitVec.ofNat 32 b = BitVec.ofNat 32 (a ||| b)
  apply BitVec.eq_of_getLsbD_eq
  intro i hi
  simp [hi]
/-- a remainder by a power of two, as a mask -/
theorem fa_mask (n k : Nat) : nI n &&& nI (2 ^ k - 1) = nI (n % 2 ^ k) := by rw [fa_and, Nat.and_two_pow_sub_one_eq_mod]
/-- 'or' of a high part and a low one that don't meet is their sum -/
theorem fa_or_sum {a k : Nat} (b : Nat) (h : a < 2 ^ k) : nI (2 ^ k * b) ||| nI a = nI (2 ^ k * b + a) := by rw [fa_or, Nat.two_pow_add_eq_or_of_lt h]
theorem fx_xor (a b : Nat) : nI a ^^^ nI b = nI (a ^^^ b) := by
  apply Int32.toBitVec_inj.1
  show BitVec.ofNat 32 a ^^^ BitVec.ofNat 32 b = BitVec.ofNat 32 (a ^^^ b)
  apply BitVec.eq_of_getLsbD_eq
  intro i hi
  simp [hi]
theorem iZ_nI (n : Nat) : iZ (n : Int) = nI n := Int32.ofInt_eq_ofNat
theorem am_andN {a b : Nat} (ha : a < 2 ^ 31) : am_and (a : Int) (b : Int) = ((a &&& b : Nat) : Int) := by
  unfold am_and
  rw [iZ_nI, iZ_nI, fa_and, nI_toInt (Nat.lt_of_le_of_lt Nat.and_le_left ha)]
theorem am_orN {a b : Nat} (ha : a < 2 ^ 31) (hb : b < 2 ^ 31) : am_or (a : Int) (b : Int) = ((a ||| b : Nat) : Int) := by
  unfold am_or
  rw [iZ_nI, iZ_nI, fa_or, nI_toInt (Nat.or_lt_two_pow ha hb)]
theorem am_xorN {a b : Nat} (ha : a < 2 ^ 31) (hb : b < 2 ^ 31) : am_xor (a : Int) (b : Int) = ((a ^^^ b : Nat) : Int) := by
  unfold am_xor
  rw [iZ_nI, iZ_nI, fx_xor, nI_toInt (Nat.xor_lt_two_pow ha hb)]
theorem fx_amt : ∀ b : Fin 32, (((nI b.val) &&& 31).toBitVec.smod 32).toNat = b.val := by decide +kernel
theorem am_shrN {a b : Nat} (ha : a < 2 ^ 31) (hb : b < 32) : am_shr (a : Int) (b : Int) = ((a / 2 ^ b : Nat) : Int) := by
  unfold am_shr
  rw [iZ_nI, iZ_nI, pk_shrN ha _ b (fx_amt ⟨b, hb⟩), nI_toInt (Nat.lt_of_le_of_lt (Nat.div_le_self _ _) ha)]
theorem am_shlN {a b : Nat} (hb : b < 32) (h : a * 2 ^ b < 2 ^ 31) : am_shl (a : Int) (b : Int) = ((a * 2 ^ b : Nat) : Int) := by
  unfold am_shl
  rw [iZ_nI, iZ_nI, pk_shlN _ b (fx_amt ⟨b, hb⟩) (Nat.lt_trans h (by decide)), nI_toInt h]
/-! ===== words as numbers ===== -/
def encN (l : List Int) : Nat := l.foldl (fun a c => a * 128 + c.toNat) 1
abbrev enc (l : List Int) : Int := (encN l : Int)
def okc (c : Int) : Prop := 0 ≤ c ∧ c < 128
def okl (l : List Int) : Prop := ∀ c ∈ l, okc c
theorem encN_nil : encN [] = 1 := rfl
theorem encN_snoc (l : List Int) (c : Int) : encN (l ++ [c]) = encN l * 128 + c.toNat := by
  unfold encN; rw [List.foldl_append]; rfl
theorem okl_app {a b : List Int} : okl (a ++ b) ↔ okl a ∧ okl b := by
  unfold okl
  constructor
  · intro h; exact ⟨fun c hc => h c (List.mem_append_left _ hc), fun c hc => h c (List.mem_append_right _ hc)⟩
  · rintro ⟨h1, h2⟩ c hc
    rcases List.mem_append.mp hc with h | h
    · exact h1 c h
    · exact h2 c h
theorem okl.take {l : List Int} (h : okl l) (n : Nat) : okl (l.take n) := fun c hc => h c (List.mem_of_mem_take hc)
theorem okl.drop {l : List Int} (h : okl l) (n : Nat) : okl (l.drop n) := fun c hc => h c (List.mem_of_mem_drop hc)
theorem encN_app (a : List Int) : ∀ (n : Nat) (b : List Int), b.length = n → okl b → 128 ^ n ≤ encN b ∧ encN b < 2 * 128 ^ n ∧ encN (a ++ b) = encN a * 128 ^ n + (encN b - 128 ^ n) := by
  intro n
  induction n with
  | zero =>
    intro b hb hk
    have : b = [] := List.length_eq_zero_iff.mp hb
    subst this
    simp [encN_nil]
  | succ n ih =>
    intro b hb hk
    obtain ⟨b', c, rfl⟩ : ∃ b' c, b = b' ++ [c] := by
      have hne : b ≠ [] := by intro e; rw [e] at hb; cases hb
      exact ⟨b.dropLast, b.getLast hne, (List.dropLast_concat_getLast hne).symm⟩
    rw [List.length_append] at hb
    have hl : b'.length = n := by simpa using hb
    obtain ⟨hk1, hk2⟩ := okl_app.mp hk
    have hc : okc c := hk2 c (by simp)
    obtain ⟨h1, h2, h3⟩ := ih b' hl hk1
    unfold okc at hc
    rw [← List.append_assoc, encN_snoc, encN_snoc, h3, Nat.pow_succ]
    have e : encN a * 128 ^ n * 128 = encN a * (128 ^ n * 128) := Nat.mul_assoc _ _ _
    refine ⟨by omega, by omega, ?_⟩
    rw [Nat.add_mul, e]
    omega
theorem encN_bd {l : List Int} (h : okl l) : 128 ^ l.length ≤ encN l ∧ encN l < 2 * 128 ^ l.length := ⟨(encN_app [] _ l rfl h).1, (encN_app [] _ l rfl h).2.1⟩
theorem encN_cat (a : List Int) {b : List Int} (h : okl b) : encN (a ++ b) = encN a * 128 ^ b.length + (encN b - 128 ^ b.length) := (encN_app a _ b rfl h).2.2
theorem encN_div {a b : List Int} (h : okl b) : encN (a ++ b) / 128 ^ b.length = encN a := by
  obtain ⟨h1, h2⟩ := encN_bd h
  rw [encN_cat a h, Nat.mul_comm, Nat.mul_add_div (Nat.pow_pos (by decide)), Nat.div_eq_of_lt (by omega)]
  rfl
theorem encN_mod {a b : List Int} (h : okl b) : encN (a ++ b) % 128 ^ b.length = encN b - 128 ^ b.length := by
  obtain ⟨h1, h2⟩ := encN_bd h
  rw [encN_cat a h, Nat.mul_comm, Nat.mul_add_mod, Nat.mod_eq_of_lt (by omega)]
theorem encN_len {a b : List Int} (ha : okl a) (hb : okl b) (h : a.length < b.length) : encN a < encN b := by
  obtain ⟨h1, h2⟩ := encN_bd ha
  obtain ⟨h3, h4⟩ := encN_bd hb
  have : 128 ^ (a.length + 1) ≤ 128 ^ b.length := Nat.pow_le_pow_right (by decide) h
  rw [Nat.pow_succ] at this
  omega
theorem encN_lex : ∀ (n : Nat) (a b : List Int), a.length = n → b.length = n → okl a → okl b → (encN a < encN b ↔ ln_bf a b) ∧ (encN a = encN b ↔ a = b) := by
  intro n
  induction n with
  | zero =>
    intro a b h1 h2 _ _
    have e1 : a = [] := List.length_eq_zero_iff.mp h1
    have e2 : b = [] := List.length_eq_zero_iff.mp h2
    subst e1; subst e2
    refine ⟨⟨fun h => absurd h (Nat.lt_irrefl _), fun h => ?_⟩, by simp⟩
    rcases h with h | ⟨-, i, -, x, y, hx, -⟩
    · exact absurd h (Nat.lt_irrefl _)
    · simp at hx
  | succ n ih =>
    intro a b h1 h2 ka kb
    cases a with
    | nil => cases h1
    | cons x a =>
      cases b with
      | nil => cases h2
      | cons y b =>
        have l1 : a.length = n := by simpa using h1
        have l2 : b.length = n := by simpa using h2
        have ka2 : okl a := fun c hc => ka c (List.mem_cons_of_mem _ hc)
        have kb2 : okl b := fun c hc => kb c (List.mem_cons_of_mem _ hc)
        obtain ⟨q1, q2⟩ := ih a b l1 l2 ka2 kb2
        have cx : okc x := ka x List.mem_cons_self
        have cy : okc y := kb y List.mem_cons_self
        unfold okc at cx cy
        have ea := encN_cat [x] ka2
        have eb := encN_cat [y] kb2
        obtain ⟨m1, m2⟩ := encN_bd ka2
        obtain ⟨m3, m4⟩ := encN_bd kb2
        have ex : encN [x] = 128 + x.toNat := by simp [encN]
        have ey : encN [y] = 128 + y.toNat := by simp [encN]
        rw [List.singleton_append] at ea eb
        rw [ex, l1] at ea
        rw [ey, l2] at eb
        rw [l1] at m1 m2
        rw [l2] at m3 m4
        generalize 128 ^ n = P at *
        have key : ∀ u v : Nat, u < v → u * P + P ≤ v * P := fun u v huv => by
          have := Nat.mul_le_mul_right P huv
          rwa [Nat.succ_mul] at this
        rcases Int.lt_trichotomy x y with hxy | hxy | hxy
        · have := key (128 + x.toNat) (128 + y.toNat) (by omega)
          refine ⟨⟨fun _ => Or.inr ⟨by simp [l1, l2], 0, fun j hj => absurd hj (Nat.not_lt_zero _), x, y, rfl, rfl, hxy⟩, fun _ => by rw [ea, eb]; omega⟩, ⟨fun h => ?_, fun h => ?_⟩⟩
          · rw [ea, eb] at h; omega
          · simp at h; omega
        · subst hxy
          refine ⟨⟨fun h => ?_, fun h => ?_⟩, ⟨fun h => ?_, fun h => ?_⟩⟩
          · rw [ea, eb] at h
            rcases q1.mp (by omega) with h | ⟨-, i, g1, u, v, g2, g3, g4⟩
            · omega
            · refine Or.inr ⟨by simp [l1, l2], i + 1, fun j hj => ?_, u, v, g2, g3, g4⟩
              cases j with
              | zero => rfl
              | succ j => exact g1 j (by omega)
          · rcases h with h | ⟨-, i, g1, u, v, g2, g3, g4⟩
            · simp [l1, l2] at h
            · cases i with
              | zero => simp at g2 g3; omega
              | succ i =>
                have := q1.mpr (Or.inr ⟨by omega, i, fun j hj => g1 (j + 1) (by omega), u, v, g2, g3, g4⟩)
                rw [ea, eb]; omega
          · rw [ea, eb] at h
            rw [q2.mp (by omega)]
          · simp at h; rw [h]
        · have := key (128 + y.toNat) (128 + x.toNat) (by omega)
          refine ⟨⟨fun h => ?_, fun h => ?_⟩, ⟨fun h => ?_, fun h => ?_⟩⟩
          · rw [ea, eb] at h; omega
          · rcases h with h | ⟨-, i, g1, u, v, g2, g3, g4⟩
            · simp [l1, l2] at h
            · cases i with
              | zero => simp at g2 g3; omega
              | succ i => have := g1 0 (by omega); simp at this; omega
          · rw [ea, eb] at h; omega
          · simp at h; omega
theorem encN_lt {a b : List Int} (ha : okl a) (hb : okl b) : encN a < encN b ↔ ln_bf a b := by
  rcases Nat.lt_trichotomy a.length b.length with h | h | h
  · exact ⟨fun _ => Or.inl h, fun _ => encN_len ha hb h⟩
  · exact (encN_lex _ a b h rfl ha hb).1
  · have := encN_len hb ha h
    refine ⟨fun q => by omega, fun q => ?_⟩
    rcases q with q | q <;> omega
theorem encN_inj {a b : List Int} (ha : okl a) (hb : okl b) : encN a = encN b ↔ a = b := by
  rcases Nat.lt_trichotomy a.length b.length with h | h | h
  · have := encN_len ha hb h
    exact ⟨fun q => by omega, fun q => by rw [q] at h; omega⟩
  · exact (encN_lex _ a b h rfl ha hb).2
  · have := encN_len hb ha h
    exact ⟨fun q => by omega, fun q => by rw [q] at h; omega⟩
/-! ===== Word's methods on words ===== -/
theorem wd_sz_enc {l : List Int} (h : okl l) (h4 : l.length ≤ 4) : wd_sz (enc l) = l.length := by
  obtain ⟨h1, h2⟩ := encN_bd h
  unfold wd_sz enc
  rcases (show l.length = 0 ∨ l.length = 1 ∨ l.length = 2 ∨ l.length = 3 ∨ l.length = 4 by omega) with e | e | e | e | e <;> rw [e] at h1 h2 ⊢ <;> simp only [Nat.pow_zero, Nat.pow_succ] at h1 h2 <;> (repeat' split) <;> omega
theorem enc_R {l : List Int} (h : okl l) (h4 : l.length ≤ 4) : encN l < 2 ^ 30 := by
  obtain ⟨h1, h2⟩ := encN_bd h
  have : 128 ^ l.length ≤ 128 ^ 4 := Nat.pow_le_pow_right (by decide) h4
  have e : (128 : Nat) ^ 4 = 268435456 := by decide
  omega
theorem enc_inR {l : List Int} (h : okl l) (h4 : l.length ≤ 4) : inR (enc l) := by
  have := enc_R h h4
  unfold inR enc
  omega
theorem pow128 (o : Nat) : 2 ^ (7 * o) = 128 ^ o := by rw [Nat.pow_mul]
theorem wd_fe_enc {l : List Int} (h : okl l) (h4 : l.length ≤ 4) {o : Nat} (ho : o < l.length) : l[l.length - 1 - o]? = some (wd_fe (enc l) (o : Int)) := by
  have hr := enc_R h h4
  unfold wd_fe
  rw [show (7 * (o : Int)) = ((7 * o : Nat) : Int) by omega, am_shrN (by omega) (by omega), show (127 : Int) = ((127 : Nat) : Int) from rfl, am_andN (Nat.lt_of_le_of_lt (Nat.div_le_self _ _) (by omega)), pow128]
  have e0 : l = l.take (l.length - o) ++ l.drop (l.length - o) := (List.take_append_drop _ l).symm
  have hd : (l.drop (l.length - o)).length = o := by rw [List.length_drop]; omega
  have e1 := encN_div (a := l.take (l.length - o)) (h.drop (l.length - o))
  rw [← e0, hd] at e1
  rw [e1]
  have hlt : l.length - 1 - o < l.length := by omega
  have e2 : l.take (l.length - o) = l.take (l.length - 1 - o) ++ [l[l.length - 1 - o]] := by
    rw [show l.length - o = l.length - 1 - o + 1 by omega, List.take_add_one, List.getElem?_eq_getElem hlt]
    rfl
  rw [e2, encN_snoc, show (127 : Nat) = 2 ^ 7 - 1 from rfl, Nat.and_two_pow_sub_one_eq_mod, List.getElem?_eq_getElem hlt]
  have hc : okc l[l.length - 1 - o] := h _ (List.getElem_mem hlt)
  unfold okc at hc
  congr 1
  omega
theorem wd_cs_enc {l : List Int} (h : okl l) (h4 : l.length ≤ 4) : wd_cs (enc l) l.length = l := by
  have : ∀ o, o ≤ l.length → wd_cs (enc l) o = l.drop (l.length - o) := by
    intro o
    induction o with
    | zero => intro _; simp [wd_cs]
    | succ o ih =>
      intro ho
      show wd_fe (enc l) (o : Int) :: wd_cs (enc l) o = _
      have h1 := wd_fe_enc h h4 (o := o) (by omega)
      have hlt : l.length - 1 - o < l.length := by omega
      rw [List.getElem?_eq_getElem hlt] at h1
      rw [ih (by omega), show l.length - (o + 1) = l.length - 1 - o by omega, List.drop_eq_getElem_cons hlt, Option.some.inj h1, show l.length - 1 - o + 1 = l.length - o by omega]
  rw [this l.length (Nat.le_refl _), Nat.sub_self]
  rfl
theorem wd_ap_enc {l : List Int} {c : Int} (h : okl l) (hc : okc c) (h3 : l.length ≤ 3) : wd_ap (enc l) c = enc (l ++ [c]) := by
  have hr : encN l < 2 ^ 23 := by
    obtain ⟨h1, h2⟩ := encN_bd h
    have : 128 ^ l.length ≤ 128 ^ 3 := Nat.pow_le_pow_right (by decide) h3
    have e : (128 : Nat) ^ 3 = 2097152 := by decide
    omega
  unfold okc at hc
  obtain ⟨n, rfl⟩ : ∃ n : Nat, c = n := ⟨c.toNat, by omega⟩
  unfold wd_ap
  rw [show (7 : Int) = ((7 : Nat) : Int) from rfl, am_shlN (by decide) (by omega), show (127 : Int) = ((127 : Nat) : Int) from rfl, am_andN (by omega), am_orN (by omega) (Nat.lt_of_le_of_lt Nat.and_le_left (by omega))]
  rw [show (127 : Nat) = 2 ^ 7 - 1 from rfl, Nat.and_two_pow_sub_one_eq_mod, Nat.mod_eq_of_lt (by omega), Nat.mul_comm, ← Nat.two_pow_add_eq_or_of_lt (by omega)]
  unfold enc
  rw [encN_snoc]
  congr 1
  omega
theorem wd_be_enc {w s : List Int} (hw : okl w) (hs : okl s) (w4 : w.length ≤ 4) (s4 : s.length ≤ 4) : wd_be (enc w) (enc s) = if s <+: w then 1 else 0 := by
  unfold wd_be
  rw [wd_sz_enc hw w4, wd_sz_enc hs s4]
  have hr := enc_R hw w4
  by_cases hl : s.length ≤ w.length
  · rw [show (7 * ((w.length : Int) - s.length)) = ((7 * (w.length - s.length) : Nat) : Int) by omega, am_shrN (by omega) (by omega), pow128]
    have hd : (w.drop s.length).length = w.length - s.length := List.length_drop
    have e1 := encN_div (a := w.take s.length) (hw.drop s.length)
    rw [List.take_append_drop, hd] at e1
    rw [e1]
    have e2 : s <+: w ↔ w.take s.length = s := by rw [List.prefix_iff_eq_take]; exact eq_comm
    have e3 := encN_inj (hw.take s.length) hs
    unfold enc
    by_cases hp : s <+: w
    · rw [if_pos hp, if_pos ⟨by omega, by rw [e3.mpr (e2.mp hp)]⟩]
    · rw [if_neg hp, if_neg (fun q => hp (e2.mpr (e3.mp (by omega))))]
  · rw [if_neg (by omega), if_neg (fun q => hl q.length_le)]
theorem wd_hi_enc {w s : List Int} (hw : okl w) (hs : okl s) (w4 : w.length ≤ 4) (s4 : s.length ≤ 4) (hp : s <+: w) : wd_hi (enc w) (enc s) = enc (w.drop s.length) := by
  have hl := hp.length_le
  have hr := enc_R hw w4
  unfold wd_hi
  rw [wd_sz_enc hw w4, wd_sz_enc hs s4, show max 0 ((w.length : Int) - s.length) = ((w.length - s.length : Nat) : Int) by omega, show (7 * ((w.length - s.length : Nat) : Int)) = ((7 * (w.length - s.length) : Nat) : Int) by omega]
  have hpw : 1 * 2 ^ (7 * (w.length - s.length)) < 2 ^ 31 := by
    rw [Nat.one_mul]; exact Nat.pow_lt_pow_right (by decide) (by omega)
  rw [show (1 : Int) = ((1 : Nat) : Int) from rfl, am_shlN (by omega) hpw, Nat.one_mul]
  rw [Nat.one_mul] at hpw
  have hpos : 0 < 2 ^ (7 * (w.length - s.length)) := Nat.two_pow_pos _
  rw [show ((2 ^ (7 * (w.length - s.length)) : Nat) : Int) - ((1 : Nat) : Int) = ((2 ^ (7 * (w.length - s.length)) - 1 : Nat) : Int) by omega, am_andN (by omega), Nat.and_two_pow_sub_one_eq_mod, am_orN hpw (Nat.lt_of_le_of_lt (Nat.mod_le _ _) (by omega))]
  have hd : (w.drop s.length).length = w.length - s.length := List.length_drop
  have e1 := encN_mod (a := w.take s.length) (hw.drop s.length)
  obtain ⟨b1, b2⟩ := encN_bd (hw.drop s.length)
  rw [List.take_append_drop, hd] at e1
  rw [hd] at b1 b2
  rw [pow128, e1]
  have e2 := Nat.two_pow_add_eq_or_of_lt (i := 7 * (w.length - s.length)) (b := encN (w.drop s.length) - 128 ^ (w.length - s.length)) (by rw [pow128]; omega) 1
  rw [Nat.mul_one, pow128] at e2
  rw [← e2]
  unfold enc
  omega

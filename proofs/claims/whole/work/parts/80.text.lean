/-! the text: bytes as the reference has them, words by number, numbers held -/
def bOK (tp : Nat → Int32) : Prop := ∀ j, -128 ≤ (tp j).toInt ∧ (tp j).toInt ≤ 127
theorem by_int : ∀ k : Nat, k < 256 → (nI k - 128).toInt = (k : Int) - 128 := by decide +kernel
theorem bOK.at {tp : Nat → Int32} (h : bOK tp) (j : Nat) : ∃ k : Nat, k < 256 ∧ tp j = nI k - 128 := by
  have := h j
  refine ⟨((tp j).toInt + 128).toNat, by omega, Int32.toInt_inj.mp ?_⟩
  rw [by_int _ (by omega)]
  omega
theorem by_fact : ∀ k : Nat, k < 256 → (((nI k - 128) &&& 255 = 32) ↔ (nI k - 128 = 32)) ∧ ((97 ≤ ((nI k - 128) &&& 255) ∧ ((nI k - 128) &&& 255) ≤ 122) ↔ sortB (nI k - 128) = 1) ∧ ((48 ≤ ((nI k - 128) &&& 255) ∧ ((nI k - 128) &&& 255) ≤ 57) ↔ sortB (nI k - 128) = 2) ∧ (((nI k - 128) &&& 255 = 59) ↔ (nI k - 128 = 59)) ∧ ¬ ((nI k - 128) &&& 255) < 0 ∧ (sortB (nI k - 128) = 1 → (nI k - 128) &&& 255 = nI k - 128 ∧ 224 < k ∧ k < 251) ∧ (sortB (nI k - 128) = 2 → (nI k - 128) &&& 255 = nI k - 128) ∧ (nI k - 128 = 59 → sortB (nI k - 128) = 3) ∧ (sortB (nI k - 128) = 1 ∨ sortB (nI k - 128) = 2 ∨ sortB (nI k - 128) = 3) := by decide +kernel
theorem by_32 {tp : Nat → Int32} (h : bOK tp) (j : Nat) : (tp j &&& 255 = 32) = (tp j = 32) := by obtain ⟨k, hk, e⟩ := h.at j; rw [e]; exact propext (by_fact k hk).1
theorem by_let {tp : Nat → Int32} (h : bOK tp) (j : Nat) : (97 ≤ tp j &&& 255 ∧ tp j &&& 255 ≤ 122) = (sortB (tp j) = 1) := by obtain ⟨k, hk, e⟩ := h.at j; rw [e]; exact propext (by_fact k hk).2.1
theorem by_dig {tp : Nat → Int32} (h : bOK tp) (j : Nat) : (48 ≤ tp j &&& 255 ∧ tp j &&& 255 ≤ 57) = (sortB (tp j) = 2) := by obtain ⟨k, hk, e⟩ := h.at j; rw [e]; exact propext (by_fact k hk).2.2.1
theorem by_59 {tp : Nat → Int32} (h : bOK tp) (j : Nat) : (tp j &&& 255 = 59) = (tp j = 59) := by obtain ⟨k, hk, e⟩ := h.at j; rw [e]; exact propext (by_fact k hk).2.2.2.1
theorem by_pos {tp : Nat → Int32} (h : bOK tp) (j : Nat) : ¬ (tp j &&& 255) < 0 := by obtain ⟨k, hk, e⟩ := h.at j; rw [e]; exact (by_fact k hk).2.2.2.2.1
theorem by_l1 {tp : Nat → Int32} (h : bOK tp) (j : Nat) (hs : sortB (tp j) = 1) : ∃ l : Nat, 1 ≤ l ∧ l ≤ 26 ∧ tp j &&& 255 = nI (96 + l) ∧ tp j = nI (96 + l) := by
  obtain ⟨k, hk, e⟩ := h.at j
  rw [e] at hs ⊢
  obtain ⟨q1, q2, q3⟩ := (by_fact k hk).2.2.2.2.2.1 hs
  have e2 : nI k - 128 = nI (k - 128) := by rw [show (128 : Int32) = nI 128 from rfl, nI_sub (by omega)]
  refine ⟨k - 224, by omega, by omega, ?_, ?_⟩
  · rw [q1, e2, show 96 + (k - 224) = k - 128 by omega]
  · rw [e2, show 96 + (k - 224) = k - 128 by omega]
theorem by_d1 {tp : Nat → Int32} (h : bOK tp) (j : Nat) (hs : sortB (tp j) = 2) : tp j &&& 255 = tp j := by
  obtain ⟨k, hk, e⟩ := h.at j
  rw [e] at hs ⊢
  exact (by_fact k hk).2.2.2.2.2.2.1 hs
theorem by_s3 {tp : Nat → Int32} {j : Nat} (hs : tp j = 59) : sortB (tp j) = 3 := by rw [hs]; decide
theorem by_123 {tp : Nat → Int32} (h : bOK tp) (j : Nat) : sortB (tp j) = 1 ∨ sortB (tp j) = 2 ∨ sortB (tp j) = 3 := by
  obtain ⟨k, hk, e⟩ := h.at j
  rw [e]
  exact (by_fact k hk).2.2.2.2.2.2.2.2
def letV (x : Int32) : Nat := (x - 96).toNatClampNeg
def valT (tp : Nat → Int32) (s : Nat) : Nat → Nat
  | 0 => 0
  | d + 1 => 27 * valT tp s d + letV (tp (s + d))
def valX (tx : List Int32) : Nat → Nat
  | 0 => 0
  | d + 1 => 27 * valX tx d + letV (tx.getD d 0)
theorem letV_at : ∀ l : Nat, l < 27 → letV (nI (96 + l)) = l := by decide +kernel
def lowC (x : Int32) : Prop := ∃ l : Nat, 1 ≤ l ∧ l ≤ 26 ∧ x = nI (96 + l)
theorem lowC.v {x : Int32} (h : lowC x) : 1 ≤ letV x ∧ letV x ≤ 26 ∧ x = nI (96 + letV x) := by
  obtain ⟨l, h1, h2, rfl⟩ := h
  rw [letV_at l (by omega)]
  exact ⟨h1, h2, rfl⟩
theorem val_inj {tp : Nat → Int32} {s : Nat} {tx : List Int32} : ∀ d e, (∀ k, k < d → lowC (tp (s + k))) → (∀ k, k < e → lowC (tx.getD k 0)) → valT tp s d = valX tx e → d = e ∧ ∀ k, k < d → tp (s + k) = tx.getD k 0
  | 0, 0, _, _, _ => ⟨rfl, fun k hk => by omega⟩
  | 0, e + 1, _, h2, h => by
    have := (h2 e (by omega)).v
    simp only [valT, valX] at h
    omega
  | d + 1, 0, h1, _, h => by
    have := (h1 d (by omega)).v
    simp only [valT, valX] at h
    omega
  | d + 1, e + 1, h1, h2, h => by
    have a := (h1 d (by omega)).v
    have b := (h2 e (by omega)).v
    simp only [valT, valX] at h
    have hl : letV (tp (s + d)) = letV (tx.getD e 0) := by omega
    obtain ⟨he, hk⟩ := val_inj d e (fun k hk => h1 k (by omega)) (fun k hk => h2 k (by omega)) (by omega)
    subst he
    refine ⟨rfl, fun k hkd => ?_⟩
    by_cases hk2 : k = d
    · subst hk2
      rw [a.2.2, b.2.2, hl]
    · exact hk k (by omega)
theorem val_c {tp : Nat → Int32} {s : Nat} {tx : List Int32} : ∀ d, (∀ k, k < d → tp (s + k) = tx.getD k 0) → valT tp s d = valX tx d
  | 0, _ => rfl
  | d + 1, h => by
    unfold valT valX
    rw [val_c d (fun k hk => h k (by omega)), h d (by omega)]
theorem val_lt {tp : Nat → Int32} {s : Nat} : ∀ d, (∀ k, k < d → lowC (tp (s + k))) → valT tp s d < 27 ^ d
  | 0, _ => by simp [valT]
  | d + 1, h => by
    have ih := val_lt d (fun k hk => h k (by omega))
    have a := (h d (by omega)).v
    unfold valT
    rw [Nat.pow_succ]
    omega
theorem isTok_iff {tp : Nat → Int32} : ∀ (tx : List Int32) (s : Nat), isTok tp s tx = true ↔ ∀ k, k < tx.length → tp (s + k) = tx.getD k 0
  | [], s => by simp [isTok]
  | c :: cs, s => by
    unfold isTok
    rw [Bool.and_eq_true, decide_eq_true_eq, isTok_iff cs (s + 1)]
    constructor
    · rintro ⟨h1, h2⟩ k hk
      cases k with
      | zero => exact h1
      | succ k =>
        have := h2 k (by simpa using hk)
        rw [show s + (k + 1) = s + 1 + k by omega]
        simpa using this
    · intro h
      refine ⟨h 0 (by simp), fun k hk => ?_⟩
      have := h (k + 1) (by simpa using hk)
      rw [show s + (k + 1) = s + 1 + k by omega] at this
      simpa using this
/-- what the reference has of a token -/
def soF (tp : Nat → Int32) (t s : Nat) : Int32 := if s < t then sortB (tp s) else 0
def wdUp (tp : Nat → Int32) (s : Nat) : Nat → Nat → Int64 → Int64
  | 0, _, w => w
  | d + 1, e, w => wdUp tp s d (e + 1) (if e - s < 12 then 27 * w + (tp e &&& 255).toInt64 - 96 else -1)
def wdF (tp : Nat → Int32) (t s : Nat) : Int64 := if soF tp t s = 1 then wdUp tp s (tokE tp t s - s) s 0 else 0
def saUp (tp : Nat → Int32) : Nat → Nat → Int32 → Int32
  | 0, _, v => v
  | d + 1, e, v => saUp tp d (e + 1) (if v ≤ 999 then 10 * v + (tp e &&& 255) - 48 else 10000)
def vlF (tp : Nat → Int32) (t s : Nat) : Int32 := if soF tp t s = 2 then saUp tp (tokE tp t s - s) s 0 else if s < t then tp s &&& 255 else -1
theorem wd_val {tp : Nat → Int32} {s : Nat} (hb : bOK tp) : ∀ d k, k + d ≤ 12 → (∀ j, j < k + d → sortB (tp (s + j)) = 1) → wdUp tp s d (s + k) (lN (valT tp s k)) = lN (valT tp s (k + d))
  | 0, k, _, _ => rfl
  | d + 1, k, h12, hl => by
    unfold wdUp
    obtain ⟨l, h1, h2, h3, h4⟩ := by_l1 hb (s + k) (hl k (by omega))
    rw [if_pos (by omega), h3, nI_l (by omega), show (27 : Int64) = lN 27 from rfl, lN_mul, lN_add, show (96 : Int64) = lN 96 from rfl, lN_sub (by omega)]
    have e : 27 * valT tp s k + (96 + l) - 96 = valT tp s (k + 1) := by
      show _ = 27 * valT tp s k + letV (tp (s + k))
      rw [h4, letV_at l (by omega)]
      omega
    rw [e, show s + k + 1 = s + (k + 1) by omega, wd_val hb d (k + 1) (by omega) (fun j hj => hl j (by omega)), show k + 1 + d = k + (d + 1) by omega]
theorem wd_long {tp : Nat → Int32} {s : Nat} : ∀ d e, 12 ≤ e - s → 0 < d → ∀ w, wdUp tp s d e w = -1
  | 0, _, _, h, _ => by omega
  | d + 1, e, h12, _, w => by
    unfold wdUp
    rw [if_neg (by omega)]
    by_cases hd : d = 0
    · subst hd; rfl
    · exact wd_long d (e + 1) (by omega) (by omega) _
theorem wd_split {tp : Nat → Int32} {s : Nat} : ∀ a b e w, wdUp tp s (a + b) e w = wdUp tp s b (e + a) (wdUp tp s a e w)
  | 0, b, e, w => by simp [wdUp]
  | a + 1, b, e, w => by
    rw [show a + 1 + b = a + b + 1 by omega]
    conv => lhs; unfold wdUp
    rw [wd_split a b, show e + 1 + a = e + (a + 1) by omega]
    rfl
theorem lN_neg {V : Nat} (h : V < 2 ^ 63) : lN V ≠ -1 := by
  intro q
  have := congrArg Int64.toInt q
  rw [pk_lT h] at this
  have e : (-1 : Int64).toInt = -1 := by decide
  omega
theorem tok_end {tp : Nat → Int32} {t s : Nat} (hs : s ≤ t) (h : soF tp t s ≠ 1 ∨ tokE tp t s - s = 0) (tx : List Int32) (hl : 0 < tx.length) (hx : ∀ k, k < tx.length → lowC (tx.getD k 0)) : takeB tp t s tx = false := by
  cases hb : takeB tp t s tx with
  | false => rfl
  | true =>
    exfalso
    have hlt := takeB_lt hb hl hs
    have hE := tokE_lt (tp := tp) hlt
    simp only [takeB, Bool.and_eq_true, decide_eq_true_eq] at hb
    have h0 := (isTok_iff tx s).mp hb.2 0 hl
    obtain ⟨l, l1, l2, e⟩ := hx 0 hl
    rw [Nat.add_zero, e] at h0
    have hso : soF tp t s = 1 := by
      unfold soF
      rw [if_pos hlt, h0]
      have : ∀ l : Nat, l < 27 → 1 ≤ l → sortB (nI (96 + l)) = 1 := by decide +kernel
      exact this l (by omega) l1
    rcases h with q | q
    · exact q hso
    · omega
theorem word_eq {tp : Nat → Int32} {t s : Nat} (hb : bOK tp) (hs : s ≤ t) {tx : List Int32} {H : Nat} (hl : 0 < tx.length) (h12 : tx.length ≤ 12) (hx : ∀ k, k < tx.length → lowC (tx.getD k 0)) (hH : valX tx tx.length = H) : takeB tp t s tx = decide (soF tp t s = 1 ∧ wdF tp t s = lN H) := by
  have hH63 : H < 2 ^ 63 := by
    have : ∀ d, d ≤ tx.length → valX tx d < 27 ^ d := by
      intro d
      induction d with
      | zero => intro _; simp [valX]
      | succ d ih =>
        intro hd
        have a := (hx d (by omega)).v
        have := ih (by omega)
        unfold valX
        rw [Nat.pow_succ]
        omega
    have h1 := this tx.length (Nat.le_refl _)
    have h2 : 27 ^ tx.length ≤ 27 ^ 12 := Nat.pow_le_pow_right (by decide) h12
    have h3 : (27 : Nat) ^ 12 < 2 ^ 63 := by decide
    omega
  by_cases hso : soF tp t s = 1
  · have hlt : s < t := by
      rcases Nat.lt_or_ge s t with q | q
      · exact q
      · unfold soF at hso
        rw [if_neg (by omega)] at hso
        exact absurd hso (by decide)
    have hs1 : sortB (tp s) = 1 := by unfold soF at hso; rw [if_pos hlt] at hso; exact hso
    have hE := tokE_lt (tp := tp) hlt
    have hall : ∀ j, j < tokE tp t s - s → sortB (tp (s + j)) = 1 := fun j hj => (tokE_all hlt (by omega) (by omega)).trans hs1
    have hlow : ∀ j, j < tokE tp t s - s → lowC (tp (s + j)) := fun j hj => by
      obtain ⟨l, a, b, -, d⟩ := by_l1 hb (s + j) (hall j hj)
      exact ⟨l, a, b, d⟩
    have hw : wdF tp t s = wdUp tp s (tokE tp t s - s) s 0 := by unfold wdF; rw [if_pos hso]
    unfold takeB
    generalize tokE tp t s - s = n at hall hlow hw ⊢
    have w12 : n ≤ 12 → wdF tp t s = lN (valT tp s n) := fun hn => by
      have := wd_val (s := s) hb n 0 (by omega) (fun j hj => hall j (by omega))
      rw [Nat.zero_add] at this
      rw [hw]
      exact this
    have key : (n = tx.length ∧ isTok tp s tx = true) ↔ (soF tp t s = 1 ∧ wdF tp t s = lN H) := by
      constructor
      · rintro ⟨h1, h2⟩
        refine ⟨hso, ?_⟩
        rw [w12 (by omega), val_c n (fun k hk => (isTok_iff tx s).mp h2 k (by omega)), h1, hH]
      · rintro ⟨-, h2⟩
        by_cases hn : n ≤ 12
        · rw [w12 hn] at h2
          have hv := val_lt n hlow
          have h3 : 27 ^ n ≤ 27 ^ 12 := Nat.pow_le_pow_right (by decide) hn
          have h4 : (27 : Nat) ^ 12 < 2 ^ 63 := by decide
          have h5 := (pk_lEQ (show valT tp s n < 2 ^ 63 by omega) hH63).mp h2
          obtain ⟨e1, e2⟩ := val_inj n tx.length hlow hx (h5.trans hH.symm)
          exact ⟨e1, (isTok_iff tx s).mpr (fun k hk => e2 k (by omega))⟩
        · exfalso
          have h3 : wdUp tp s n s 0 = -1 := by
            rw [show n = 12 + (n - 12) by omega, wd_split]
            exact wd_long (n - 12) (s + 12) (by omega) (by omega) _
          rw [hw, h3] at h2
          exact lN_neg hH63 h2.symm
    rw [← Bool.decide_coe (isTok tp s tx), ← Bool.decide_and]
    exact decide_eq_decide.mpr key
  · rw [tok_end hs (Or.inl hso) tx hl hx]
    exact (decide_eq_false (fun q => hso q.1)).symm

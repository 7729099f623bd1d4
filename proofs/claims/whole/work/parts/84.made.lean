/-! what is made: a world whose cells from b on are a list -/
def pW (h : Nat → Option rE) (b : Nat) (l : List rE) (s : Nat) : rW := (fun q => if q < b then h q else l[q - b]?, b + l.length, s)
def pPf (l : List rE) (i ci k : Nat) (v : Value) : Option (List rE) := match l[i]? with
  | some (.inr (.inr (.inr (c, fs)))) => if c = ci ∧ c < 6 ∧ k < fs.length then some (l.set i (rO c (fs.set k v))) else none
  | _ => none
def pF (l : List rE) (i ci k : Nat) : Option Value := match l[i]? with
  | some (.inr (.inr (.inr (c, fs)))) => if c = ci then fs[k]? else none
  | _ => none
section PW
variable {h : Nat → Option rE} {b : Nat} {l : List rE} {s : Nat}
theorem pw_at {i : Nat} : (pW h b l s).1 (b + i) = l[i]? := by
  simp only [pW]
  rw [if_neg (by omega), Nat.add_sub_cancel_left]
theorem pw_21 : (pW h b l s).2.1 = b + l.length := rfl
theorem pw_22 : (pW h b l s).2.2 = s := rfl
theorem pw_new {e : rE} {k : Nat} : rNew (pW h b l s) e k = pW h b (l ++ [e]) (s + k) := by
  refine Prod.ext (funext fun q => ?_) (Prod.ext ?_ rfl)
  · show (if q = b + l.length then some e else (if q < b then h q else l[q - b]?)) = (if q < b then h q else (l ++ [e])[q - b]?)
    by_cases h1 : q < b
    · rw [if_neg (show ¬ q = b + l.length by omega), if_pos h1, if_pos h1]
    · rw [if_neg h1, if_neg h1]
      by_cases h2 : q = b + l.length
      · rw [if_pos h2, h2, Nat.add_sub_cancel_left, List.getElem?_append_right (Nat.le_refl _), Nat.sub_self]
        rfl
      · rw [if_neg h2]
        by_cases h3 : q - b < l.length
        · rw [List.getElem?_append_left h3]
        · rw [List.getElem?_eq_none (by omega), List.getElem?_eq_none (by rw [List.length_append]; simp; omega)]
  · show b + l.length + 1 = b + (l ++ [e]).length
    rw [List.length_append]
    rfl
theorem pw_set {i : Nat} {e : rE} (hi : i < l.length) : rU (pW h b l s) (b + i) e = pW h b (l.set i e) s := by
  refine Prod.ext (funext fun q => ?_) (Prod.ext ?_ rfl)
  · simp only [rU, pW]
    by_cases h1 : q < b
    · rw [if_neg (by omega), if_pos h1, if_pos h1]
    · rw [if_neg h1, if_neg h1]
      by_cases h2 : q = b + i
      · rw [if_pos h2, h2, Nat.add_sub_cancel_left, List.getElem?_set_self hi]
      · rw [if_neg h2, List.getElem?_set_ne (by omega)]
  · simp only [rU, pW, List.length_set]
theorem pw_pf {i ci k : Nat} {v : Value} : rPf (pW h b l s) (b + i) ci k v = (pPf l i ci k v).map (fun l' => pW h b l' s) := by
  unfold rPf pPf
  rw [pw_at]
  cases hl : l[i]? with
  | none => rfl
  | some e =>
    have hi : i < l.length := (List.getElem?_eq_some_iff.mp hl).1
    match e with
    | .inl _ => rfl
    | .inr (.inl _) => rfl
    | .inr (.inr (.inl _)) => rfl
    | .inr (.inr (.inr (c, fs))) =>
      simp only
      split
      · rw [pw_set hi]; rfl
      · rfl
theorem pw_pf0 {ci k : Nat} {v : Value} : rPf (pW h b l s) b ci k v = (pPf l 0 ci k v).map (fun l' => pW h b l' s) := pw_pf (i := 0)
theorem pw_f {i ci k : Nat} : rF (pW h b l s) (b + i) ci k = pF l i ci k := by
  unfold rF pF
  rw [pw_at]
  rfl
theorem pw_f0 {ci k : Nat} : rF (pW h b l s) b ci k = pF l 0 ci k := pw_f (i := 0)
theorem pw_is {i ci : Nat} {fs : List Value} (hl : l[i]? = some (rO ci fs)) : rIs (pW h b l s) (b + i) ci := ⟨fs, by rw [pw_at]; exact hl⟩
theorem pw_split {m : List rE} : pW h b (l ++ m) s = pW (fun q => if q < b then h q else l[q - b]?) (b + l.length) m s := by
  refine Prod.ext (funext fun q => ?_) (Prod.ext ?_ rfl)
  · show (if q < b then h q else (l ++ m)[q - b]?) = (if q < b + l.length then (if q < b then h q else l[q - b]?) else m[q - (b + l.length)]?)
    by_cases h1 : q < b
    · rw [if_pos h1, if_pos (show q < b + l.length by omega), if_pos h1]
    · rw [if_neg h1]
      by_cases h2 : q < b + l.length
      · rw [if_pos h2, if_neg h1, List.getElem?_append_left (by omega)]
      · rw [if_neg h2, List.getElem?_append_right (by omega), Nat.sub_sub]
  · show b + (l ++ m).length = b + l.length + m.length
    rw [List.length_append]
    omega
def pRn (l : List rE) (i : Nat) : Nat := match l[i]? with
  | some (.inr (.inr (.inl (n, _)))) => n
  | _ => 0
def pRg (l : List rE) (i : Nat) : Nat → Option Nat := match l[i]? with
  | some (.inr (.inr (.inl (_, g)))) => g
  | _ => fun _ => none
theorem pw_rn {i : Nat} : rRn (pW h b l s) (b + i) = pRn l i := by
  unfold rRn pRn
  rw [pw_at]
  rfl
theorem pw_rg {i : Nat} : rRg (pW h b l s) (b + i) = pRg l i := by
  unfold rRg pRg
  rw [pw_at]
  rfl
theorem pw_sr {i j x : Nat} (hi : i < l.length) : rSr (pW h b l s) (b + i) j x = pW h b (l.set i (rRA (pRn l i) (va_up (pRg l i) j (some x)))) s := by
  unfold rSr
  rw [pw_rn, pw_rg, pw_set hi]
def pWn (l : List rE) (i : Nat) : Nat := match l[i]? with
  | some (.inl (t, n, _)) => if t = 0 then n else 0
  | _ => 0
def pGv (l : List rE) (i : Nat) : Nat → Int32 := match l[i]? with
  | some (.inl (_, _, g)) => g
  | _ => fun _ => 0
end PW
def z8 : rE := rIA 8 (fun _ => 0)
def av8 (k : Nat) : List rE := [rO 0 [.int 0, .int 1, .int 0, .ref (k + 1), .ref (k + 2), .ref (k + 3), .ref (k + 4), .ref (k + 5), .ref (k + 6), .ref (k + 7)], z8, z8, z8, z8, z8, z8, z8]
section T84
variable {θ : (Nat → Value) × (Nat → Nat)} {n : Nat} {h : Nat → Option rE} {k s : Nat} {Q : rQ}
theorem sX0_init0 : sg θ (n + 2) 0 [.ref k] (pW h k [rO 0 [.int 0, .int 0, .int 0, .null, .null, .null, .null, .null, .null, .null]] s) Q ↔ Q none (pW h k (av8 k) (s + 56)) := by
  rw [nX0_init]
  simp [eX0_init_0, eX0_init_1, eX0_init_4, eX0_init_5, eX0_init_6, eX0_init_9, eX0_init_10, eX0_init_11, eX0_init_14, eX0_init_15, eX0_init_16, eX0_init_19, eX0_init_20, eX0_init_22, eX0_init_24, eX0_init_27, eX0_init_28, eX0_init_30, eX0_init_32, eX0_init_35, eX0_init_36, eX0_init_38, eX0_init_40, eX0_init_43, eX0_init_44, eX0_init_46, eX0_init_48, eX0_init_51, eX0_init_52, eX0_init_54, eX0_init_56, eX0_init_59, eX0_init_60, eX0_init_62, eX0_init_64, eX0_init_67, eX0_init_68, eX0_init_70, eX0_init_72, eX0_init_75, pw_new, pw_21, pw_22, pw_pf0, pPf, av8, z8, Nat.add_assoc]
theorem sX2_init0 : sg θ (n + 2) 22 [.ref k] (pW h k [rO 1 [.null, .int 0, .int 0]] s) Q ↔ Q none (pW h k [rO 1 [.ref (k + 1), .int 0, .int 0], rLA 40 (fun _ => 0)] (s + 40)) := by
  rw [nX2_init]
  simp [eX2_init_0, eX2_init_1, eX2_init_4, eX2_init_5, eX2_init_7, eX2_init_9, eX2_init_12, eX2_init_13, eX2_init_14, eX2_init_17, eX2_init_18, eX2_init_19, eX2_init_22, pw_new, pw_21, pw_22, pw_pf0, pPf, Nat.add_assoc]
theorem sX3_init0 : sg θ (n + 2) 27 [.ref k] (pW h k [rO 2 [.int 0, .null, .int 0, .int 0]] s) Q ↔ Q none (pW h k [rO 2 [.int 0, .ref (k + 1), .int 0, .int 0], rBA 120 (fun _ => 0)] (s + 120)) := by
  rw [nX3_init]
  simp [eX3_init_0, eX3_init_1, eX3_init_4, eX3_init_5, eX3_init_6, eX3_init_9, eX3_init_10, eX3_init_12, eX3_init_14, eX3_init_17, eX3_init_18, eX3_init_19, eX3_init_22, eX3_init_23, eX3_init_24, eX3_init_27, pw_new, pw_21, pw_22, pw_pf0, pPf, Nat.add_assoc]
theorem last_split {l : List rE} {d : rE} (hl : l.getLast? = some d) : l = l.dropLast ++ [d] := by
  obtain ⟨ys, rfl⟩ := List.getLast?_eq_some_iff.mp hl
  simp
theorem sX0_initL {b i : Nat} {l : List rE} (hi : i + 1 = l.length) (hl : l.getLast? = some (rO 0 [.int 0, .int 0, .int 0, .null, .null, .null, .null, .null, .null, .null])) : sg θ (n + 2) 0 [.ref (b + i)] (pW h b l s) Q ↔ Q none (pW h b (l.dropLast ++ av8 (b + i)) (s + 56)) := by
  have hi2 : i = l.dropLast.length := by rw [List.length_dropLast]; omega
  have e := last_split hl
  conv => lhs; rw [e, pw_split, hi2]
  rw [sX0_init0, pw_split, hi2]
theorem sX2_initL {b i : Nat} {l : List rE} (hi : i + 1 = l.length) (hl : l.getLast? = some (rO 1 [.null, .int 0, .int 0])) : sg θ (n + 2) 22 [.ref (b + i)] (pW h b l s) Q ↔ Q none (pW h b (l.dropLast ++ [rO 1 [.ref (b + i + 1), .int 0, .int 0], rLA 40 (fun _ => 0)]) (s + 40)) := by
  have hi2 : i = l.dropLast.length := by rw [List.length_dropLast]; omega
  have e := last_split hl
  conv => lhs; rw [e, pw_split, hi2]
  rw [sX2_init0, pw_split, hi2]
theorem sX3_initL {b i : Nat} {l : List rE} (hi : i + 1 = l.length) (hl : l.getLast? = some (rO 2 [.int 0, .null, .int 0, .int 0])) : sg θ (n + 2) 27 [.ref (b + i)] (pW h b l s) Q ↔ Q none (pW h b (l.dropLast ++ [rO 2 [.int 0, .ref (b + i + 1), .int 0, .int 0], rBA 120 (fun _ => 0)]) (s + 120)) := by
  have hi2 : i = l.dropLast.length := by rw [List.length_dropLast]; omega
  have e := last_split hl
  conv => lhs; rw [e, pw_split, hi2]
  rw [sX3_init0, pw_split, hi2]
end T84

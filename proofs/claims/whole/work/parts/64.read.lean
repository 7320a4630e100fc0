def RdB (o : Int32 × Int32 × Int32 × Int32 × Int32 × Int32 × Int32 × Int32 × Int32 × Int32 × (Nat → Int32) × (Nat → Int32) × (Nat → Int32) × (Nat → Int32) × (Nat → Int32) × (Nat → Int32) × (Nat → Int32)) (o' : Int32 × Int32 × Int32 × Int32 × Int32 × Int32 × Int32 × Int32 × Int32 × Int32 × Int32 × Int32 × (Nat → Int32) × (Nat → Int32) × (Nat → Int32)) : Prop := o'.1 = 0 ∧ ∃ f x : Nat, (1 ≤ f ∧ f ≤ 4) ∧ o.1 = nI f ∧ o.2.1 = nI x ∧ o'.2.2.2.2.2.2.1 = nI x ∧ o'.2.2.2.2.2.2.2.1 = nI f
def RdG (o : Int32 × Int32 × Int32 × Int32 × Int32 × Int32 × Int32 × Int32 × Int32 × Int32 × (Nat → Int32) × (Nat → Int32) × (Nat → Int32) × (Nat → Int32) × (Nat → Int32) × (Nat → Int32) × (Nat → Int32)) (o' : Int32 × Int32 × Int32 × Int32 × Int32 × Int32 × Int32 × Int32 × Int32 × Int32 × Int32 × Int32 × (Nat → Int32) × (Nat → Int32) × (Nat → Int32)) : Prop := o'.1 = 1 ∧ o.1 = 0 ∧ ∃ (n c cp : Nat) (lt : Bool) (w : Int32) (pi lo de fr to be : Nat → Nat), RdI n c cp lt w pi lo de fr to be o.2.2.2.2.2.1 o.2.2.2.2.2.2.1 o.2.2.2.2.2.2.2.1 o.2.2.2.2.2.2.2.2.1 o.2.2.2.2.2.2.2.2.2.1 o.2.2.2.2.2.2.2.2.2.2.1 o.2.2.2.2.2.2.2.2.2.2.2.1 o.2.2.2.2.2.2.2.2.2.2.2.2.1 o.2.2.2.2.2.2.2.2.2.2.2.2.2.1 o.2.2.2.2.2.2.2.2.2.2.2.2.2.2.1 o.2.2.2.2.2.2.2.2.2.2.2.2.2.2.2.1 o.2.2.2.2.2.2.2.2.2.2.2.2.2.2.2.2 o'.2.2.2.2.2.2.2.2.1 o'.2.2.2.2.2.2.2.2.2.1 o'.2.2.2.2.2.2.2.2.2.2.1 o'.2.2.2.2.2.2.2.2.2.2.2.1 o'.2.2.2.2.2.2.2.2.2.2.2.2.1 o'.2.2.2.2.2.2.2.2.2.2.2.2.2.1 o'.2.2.2.2.2.2.2.2.2.2.2.2.2.2
section Read
variable {len N : Nat} {T : Nat → Nat} {t1 t2 : Nat → Int32}
def TokI (len : Nat) (T : Nat → Nat) (p : Nat) (pos ta tk : Int32) : Prop := (p = len ∧ tk = -2) ∨ (p < len ∧ T p ≠ 32 ∧ ta = nI p ∧ (((48 ≤ T p ∧ T p ≤ 57) ∧ tk = -1) ∨ (tk = nI (T p) ∧ pos = nI (p + 1))))
theorem tok_at (hN : 70000 ≤ N) (X : TxT len T t1 t2) {p : Nat} (hp : p ≤ len) (ta tk nu fg : Int32) : ∃ (pos ta' tk' nu' fg' : Int32), F_X9_nextToken N (nI len) (nI p) ta tk nu fg t2 = some (pos, ta', tk', nu', fg') ∧ TokI len T (sk T len p) pos ta' tk' := by
  have hs := sk_spec (T := T) hp
  rcases v_tok hN X hp rfl ta tk nu fg with ⟨e, ht⟩ | ⟨hl, hf, h0, ht⟩ | ⟨hl, hf, h32, h0, ht⟩
  · exact ⟨_, _, _, _, _, ht, Or.inl ⟨e, rfl⟩⟩
  · refine ⟨_, _, _, _, _, ht, Or.inr ⟨hl, ?_, rfl, Or.inl ⟨hf, rfl⟩⟩⟩
    omega
  · exact ⟨_, _, _, _, _, ht, Or.inr ⟨hl, h32, rfl, Or.inr ⟨rfl, rfl⟩⟩⟩
theorem i_m2 {a : Nat} (ha : a < 2147483648) : ¬ nI a = (-2 : Int32) := by
  intro e
  have h1 := congrArg Int32.toInt e
  rw [nI_toInt (by omega), show (-2 : Int32).toInt = -2 from rfl] at h1
  omega
theorem read_end {ft : Int32} (hf : ft ≠ 0) (l fp pl np x10 x15 x16 x17 x18 : Int32) (f12 f13 f14 f15 f16 f17 f18 : Nat → Int32) (y : Int32) (g : Nat) : F_X6_read_25 N l t1 (g + 1) fp ft pl np x10 x15 x16 x17 x18 f12 f13 f14 f15 f16 f17 f18 y = some (ft, fp, ft, pl, np, x10, x15, x16, x17, x18, f12, f13, f14, f15, f16, f17, f18) := by
  show B_X6_read_25 N l t1 (F_X6_read_25 N l t1 g) fp ft pl np x10 x15 x16 x17 x18 f12 f13 f14 f15 f16 f17 f18 y = _
  unfold B_X6_read_25
  by_cases h : (240 : Int32) ≤ y
  · rw [if_pos h]
  · rw [if_neg h]
    by_cases h2 : l ≤ pl
    · rw [if_pos h2]
    · rw [if_neg h2, if_neg hf]
theorem read_both (hN : 70000 ≤ N) (X : TxT len T t1 t2) :
    ∀ (m g g' i p : Nat) (fp fa fi np nu fg pos ta tk : Int32) (n c cp : Nat) (lt : Bool) (w : Int32) (pi lo de fr to be : Nat → Nat) (x10 x15 x16 x17 x18 : Int32) (f12 f13 f14 f15 f16 f17 f18 : Nat → Int32) (m8 m9 m10 m11 : Int32) (g2 g3 g4 : Nat → Int32), len ≤ p + m → m + 2 ≤ g → m + 2 ≤ g' → i ≤ p → p ≤ len → TokI len T p pos ta tk → RdI n c cp lt w pi lo de fr to be x10 x15 x16 x17 x18 f12 f13 f14 f15 f16 f17 f18 m8 m9 m10 m11 g2 g3 g4 →
      ∃ o o', F_X6_read_25 N (nI len) t1 g fp 0 (nI p) np x10 x15 x16 x17 x18 f12 f13 f14 f15 f16 f17 f18 (nI i) = some o ∧ F_X9_isRead_29 N (nI len) t2 g' pos ta tk nu fg fa fi m8 m9 m10 m11 g2 g3 g4 = some o' ∧ (RdB o o' ∨ RdG o o') := by
  have h240 := X.1
  intro m
  induction m with
  | zero =>
    intro g g' i p fp fa fi np nu fg pos ta tk n c cp lt w pi lo de fr to be x10 x15 x16 x17 x18 f12 f13 f14 f15 f16 f17 f18 m8 m9 m10 m11 g2 g3 g4 hm hg hg' hi hp hT Rd
    obtain ⟨g, rfl⟩ : ∃ h, g = h + 1 := ⟨g - 1, by omega⟩
    obtain ⟨g', rfl⟩ : ∃ h, g' = h + 1 := ⟨g' - 1, by omega⟩
    have hk : tk = -2 := by
      rcases hT with ⟨_, h⟩ | ⟨h, _⟩
      · exact h
      · omega
    refine ⟨(0, fp, 0, nI p, np, x10, x15, x16, x17, x18, f12, f13, f14, f15, f16, f17, f18), (1, pos, ta, tk, nu, fg, fa, fi, m8, m9, m10, m11, g2, g3, g4), ?_, ?_, Or.inr ⟨rfl, rfl, n, c, cp, lt, w, pi, lo, de, fr, to, be, Rd⟩⟩
    · show B_X6_read_25 N (nI len) t1 (F_X6_read_25 N (nI len) t1 g) fp 0 (nI p) np x10 x15 x16 x17 x18 f12 f13 f14 f15 f16 f17 f18 (nI i) = _
      unfold B_X6_read_25
      rw [if_pos (show nI len ≤ nI p from i_le (by omega) (by omega))]
      by_cases h : (240 : Int32) ≤ nI i
      · rw [if_pos h]
      · rw [if_neg h]
    · show B_X9_isRead_29 N (nI len) t2 (F_X9_isRead_29 N (nI len) t2 g') pos ta tk nu fg fa fi m8 m9 m10 m11 g2 g3 g4 = _
      unfold B_X9_isRead_29
      rw [if_pos hk]
  | succ m ih =>
    intro g g' i p fp fa fi np nu fg pos ta tk n c cp lt w pi lo de fr to be x10 x15 x16 x17 x18 f12 f13 f14 f15 f16 f17 f18 m8 m9 m10 m11 g2 g3 g4 hm hg hg' hi hp hT Rd
    obtain ⟨g, rfl⟩ : ∃ h, g = h + 1 + 1 := ⟨g - 2, by omega⟩
    obtain ⟨g', rfl⟩ : ∃ h, g' = h + 1 + 1 := ⟨g' - 2, by omega⟩
    rw [show F_X6_read_25 N (nI len) t1 (g + 1 + 1) fp 0 (nI p) np x10 x15 x16 x17 x18 f12 f13 f14 f15 f16 f17 f18 (nI i) = B_X6_read_25 N (nI len) t1 (F_X6_read_25 N (nI len) t1 (g + 1)) fp 0 (nI p) np x10 x15 x16 x17 x18 f12 f13 f14 f15 f16 f17 f18 (nI i) from rfl, show F_X9_isRead_29 N (nI len) t2 (g' + 1 + 1) pos ta tk nu fg fa fi m8 m9 m10 m11 g2 g3 g4 = B_X9_isRead_29 N (nI len) t2 (F_X9_isRead_29 N (nI len) t2 (g' + 1)) pos ta tk nu fg fa fi m8 m9 m10 m11 g2 g3 g4 from rfl]
    unfold B_X6_read_25 B_X9_isRead_29
    rcases hT with ⟨hT1, hT2⟩ | ⟨hT1, hT2, hT3, hT4⟩
    · rw [if_pos (show nI len ≤ nI p from i_le (by omega) (by omega)), if_pos hT2]
      by_cases h : (240 : Int32) ≤ nI i
      · rw [if_pos h]
        exact ⟨_, _, rfl, rfl, Or.inr ⟨rfl, rfl, n, c, cp, lt, w, pi, lo, de, fr, to, be, Rd⟩⟩
      · rw [if_neg h]
        exact ⟨_, _, rfl, rfl, Or.inr ⟨rfl, rfl, n, c, cp, lt, w, pi, lo, de, fr, to, be, Rd⟩⟩
    · have hk2 : ¬ tk = -2 := by
        rcases hT4 with ⟨_, h⟩ | ⟨h, _⟩
        · rw [h]; decide
        · rw [h]; exact i_m2 (by have := (X.2 p hT1).1; omega)
      subst hT3
      obtain ⟨o, o', e1, e2, e3⟩ := clause_both hN X hT1 fp fa fi np nu fg hT4 Rd
      rw [if_neg (nge240 (by omega)), if_neg (i_nle hT1 (by omega)), if_pos rfl, bnd_of e1, if_neg hk2, bnd_of e2]
      rcases e3 with ⟨b1, f, x, p', b2, b3, b4, b5, b6, b7, b8⟩ | ⟨b1, b2, b3, p', b4, b5, b6, b7, n', c', cp', lt', w', pi', lo', de', fr', to', be', Rd'⟩
      · rw [b6, b5, bnd_of (v_skip hN X b3), nm_def, read_end (fl_ne b2), if_pos b1]
        exact ⟨_, _, rfl, rfl, Or.inl ⟨rfl, f, x, b2, rfl, b4, b7, b8⟩⟩
      · obtain ⟨pos', ta', tk', nu', fg', q1, q2⟩ := tok_at hN X b5 o'.2.2.1 o'.2.2.2.1 o'.2.2.2.2.1 o'.2.2.2.2.2.1
        have hs := sk_spec (T := T) b5
        rw [b6, b3, bnd_of (v_skip hN X b5), nm_def, i_s, if_neg (show ¬ o'.1 = 0 by rw [b1]; decide), b7, bnd_of q1]
        exact ih (g + 1) (g' + 1) (i + 1) (sk T len p') _ _ _ _ _ _ _ _ _ n' c' cp' lt' w' pi' lo' de' fr' to' be' _ _ _ _ _ _ _ _ _ _ _ _ _ _ _ _ _ _ _ (by omega) (by omega) (by omega) (by omega) hs.2.1 q2 Rd'
theorem text_both (hN : 70000 ≤ N) (X : TxT len T t1 t2) (fp ft pl np x10 x15 x16 x17 x18 : Int32) (f12 f13 f14 f15 f16 f17 f18 : Nat → Int32) (pos ta tk nu fg fa fi m8 m9 m10 m11 : Int32) (g2 g3 g4 : Nat → Int32) :
    ∃ o o', F_X6_read N (nI len) fp ft pl np x10 t1 x15 x16 x17 x18 f12 f13 f14 f15 f16 f17 f18 = some o ∧ F_X9_isRead N (nI len) pos ta tk nu fg fa fi m8 m9 m10 m11 t2 g2 g3 g4 = some o' ∧ (RdB o o' ∨ RdG o o') := by
  have h240 := X.1
  obtain ⟨pos', ta', tk', nu', fg', q1, q2⟩ := tok_at hN X (Nat.zero_le len) ta tk nu fg
  have hs := sk_spec (T := T) (Nat.zero_le len)
  have e1 : F_X9_nextToken N (nI len) 0 ta tk nu fg t2 = some (pos', ta', tk', nu', fg') := q1
  have e2 : F_X6_skipBlanks N (nI len) 0 t1 = some (nI (sk T len 0)) := v_skip hN X (Nat.zero_le len)
  unfold F_X6_read F_X9_isRead
  rw [bnd_of (v_X7_clear hN x15 x16 x17 x18 f18), bnd_of e2, bnd_of e1]
  exact read_both hN X len N N 0 (sk T len 0) fp fa fi np nu' fg' pos' ta' tk' 0 0 0 false 57 (fun _ => 0) (fun _ => 0) (fun _ => 0) (fun _ => 0) (fun _ => 0) (fun _ => 0) 0 0 0 0 57 f12 f13 f14 f15 f16 f17 (va_cpy (fun _ => -1) f18 0 0 8) 0 0 0 (-1) g2 g3 g4 (by omega) (by omega) (by omega) (by omega) hs.2.1 q2
    ⟨by omega, by omega, fun _ => rfl, ⟨by omega, fun s hs => absurd hs (by omega)⟩, fun s hs => absurd hs (by omega), rfl, rfl, rfl, rfl, rfl, rfl, rfl, rfl, Or.inl ⟨rfl, rfl, rfl⟩, fun i hi => absurd hi (by omega), fun s hs => absurd hs (by omega), fun s _ hs => by rw [cpy_in0 hs]⟩
end Read

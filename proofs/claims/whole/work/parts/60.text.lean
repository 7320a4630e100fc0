/-! the text as numbers; blanks, figures -/
def TxT (len : Nat) (T : Nat → Nat) (t1 t2 : Nat → Int32) : Prop := len ≤ 240 ∧ ∀ j, j < len → T j < 256 ∧ t1 j = nI (T j) ∧ t2 j = nI (T j)
def skN (T : Nat → Nat) : Nat → Nat → Nat
  | 0, p => p
  | m + 1, p => if T p = 32 then skN T m (p + 1) else p
def sk (T : Nat → Nat) (len p : Nat) : Nat := skN T (len - p) p
def dgN (T : Nat → Nat) : Nat → Nat → Nat
  | 0, _ => 0
  | m + 1, p => if 48 ≤ T p ∧ T p ≤ 57 then dgN T m (p + 1) + 1 else 0
def vaN (T : Nat → Nat) (q : Nat) : Nat → Nat
  | 0 => 0
  | f + 1 => if f < 3 then 10 * vaN T q f + (T (q + f) - 48) else vaN T q f
theorem skN_spec (T : Nat → Nat) : ∀ m p, p ≤ skN T m p ∧ skN T m p ≤ p + m ∧ (skN T m p = p + m ∨ T (skN T m p) ≠ 32)
  | 0, p => ⟨Nat.le_refl _, Nat.le_refl _, Or.inl rfl⟩
  | m + 1, p => by
    have ih := skN_spec T m (p + 1)
    rw [skN]
    by_cases h : T p = 32
    · rw [if_pos h]
      refine ⟨by omega, by omega, ?_⟩
      rcases ih.2.2 with w | w
      · exact Or.inl (by omega)
      · exact Or.inr w
    · rw [if_neg h]
      exact ⟨Nat.le_refl _, by omega, Or.inr h⟩
theorem sk_spec {T : Nat → Nat} {len p : Nat} (h : p ≤ len) : p ≤ sk T len p ∧ sk T len p ≤ len ∧ (sk T len p = len ∨ T (sk T len p) ≠ 32) := by
  have s := skN_spec T (len - p) p
  unfold sk
  refine ⟨s.1, by omega, ?_⟩
  rcases s.2.2 with w | w
  · exact Or.inl (by omega)
  · exact Or.inr w
theorem sk_id {T : Nat → Nat} {len p : Nat} (h : p ≤ len) (hn : p = len ∨ T p ≠ 32) : sk T len p = p := by
  unfold sk
  rcases Nat.lt_or_ge p len with w | w
  · obtain ⟨m, hm⟩ : ∃ m, len - p = m + 1 := ⟨len - p - 1, by omega⟩
    rw [hm, skN, if_neg]
    rcases hn with e | e
    · omega
    · exact e
  · rw [show len - p = 0 by omega]
    rfl
theorem dgN_le (T : Nat → Nat) : ∀ m p, dgN T m p ≤ m
  | 0, _ => Nat.le_refl _
  | m + 1, p => by
    have ih := dgN_le T m (p + 1)
    rw [dgN]
    by_cases h : 48 ≤ T p ∧ T p ≤ 57
    · rw [if_pos h]; omega
    · rw [if_neg h]; omega
theorem vaN_sm (T : Nat → Nat) (q : Nat) : ∀ f, (∀ i, i < f → T (q + i) ≤ 57) → vaN T q f < 1000 ∧ (f ≤ 2 → vaN T q f < 100) ∧ (f ≤ 1 → vaN T q f < 10)
  | 0, _ => ⟨by rw [vaN]; omega, fun _ => by rw [vaN]; omega, fun _ => by rw [vaN]; omega⟩
  | f + 1, h => by
    have ih := vaN_sm T q f (fun i hi => h i (by omega))
    have h2 := h f (by omega)
    rw [vaN]
    by_cases w : f < 3
    · rw [if_pos w]
      refine ⟨?_, fun z => ?_, fun z => ?_⟩
      · have := ih.2.1 (by omega)
        omega
      · have := ih.2.2 (by omega)
        omega
      · have e : f = 0 := by omega
        subst e
        rw [vaN]
        omega
    · rw [if_neg w]
      exact ⟨ih.1, fun z => by omega, fun z => by omega⟩
theorem i_dig {v x : Nat} (h : 48 ≤ x) : (10 : Int32) * nI v + nI x - 48 = nI (10 * v + (x - 48)) := by
  rw [show (10 : Int32) = nI 10 from rfl, show (48 : Int32) = nI 48 from rfl, pk_mul, nI_add, pk_sub (by omega), show 10 * v + x - 48 = 10 * v + (x - 48) by omega]
theorem v_isFig {x : Nat} (hx : x < 256) : F_X6_isFigure (nI x) = some (b2i (decide (48 ≤ x ∧ x ≤ 57))) := by
  unfold F_X6_isFigure
  by_cases h1 : x < 48
  · rw [if_pos (lt48 h1), decide_eq_false (by omega)]; rfl
  · rw [if_neg (nlt48 (by omega) (by omega))]
    by_cases h2 : 57 < x
    · rw [if_pos (gt57 h2 (by omega)), decide_eq_false (by omega)]; rfl
    · rw [if_neg (ngt57 (by omega)), decide_eq_true (by omega)]; rfl
theorem v_inFig {x : Nat} (hx : x < 256) : F_X9_in (nI x) 48 57 = some (b2i (decide (48 ≤ x ∧ x ≤ 57))) := by
  have h := v_X9_in_n (x := x) (a := 48) (b := 57) (by omega) (by omega) (by omega)
  have h : F_X9_in (nI x) 48 57 = some (if 48 ≤ x ∧ x ≤ 57 then 1 else 0) := h
  rw [h]
  by_cases w : 48 ≤ x ∧ x ≤ 57
  · rw [if_pos w, decide_eq_true w]; rfl
  · rw [if_neg w, decide_eq_false w]; rfl
theorem at_any {n : Nat} (hn : n < 2147483648) (f : Nat → Int32) (x : Int32) : ∃ v, F_X8_at n f x = some v := by
  by_cases h : x < 0
  · exact ⟨_, atI_neg h⟩
  · obtain ⟨j, hj, rfl⟩ := nI_of h
    rcases Nat.lt_or_ge j n with w | w
    · exact ⟨_, atI_in w hn⟩
    · exact ⟨_, atI_out w hj⟩
theorem lay_any {n : Nat} (hn : n < 2147483648) (f : Nat → Int32) (x v : Int32) : ∃ g, F_X8_lay n f x v = some g := by
  by_cases h : x < 0
  · refine ⟨f, ?_⟩
    unfold F_X8_lay
    rw [if_pos h]
  · obtain ⟨j, hj, rfl⟩ := nI_of h
    rcases Nat.lt_or_ge j n with w | w
    · exact ⟨_, layI_in w hn⟩
    · exact ⟨_, layI_out w hj⟩
theorem fail_0 (fp x y : Int32) : F_X6_fail fp 0 x y = some (y, x) := if_pos rfl
theorem fail_1 {ft : Int32} (h : ft ≠ 0) (fp x y : Int32) : F_X6_fail fp ft x y = some (fp, ft) := if_neg h
section Text
variable {len N : Nat} {T : Nat → Nat} {t1 t2 : Nat → Int32}
theorem v_skip (hN : 70000 ≤ N) (X : TxT len T t1 t2) {p : Nat} (hp : p ≤ len) : F_X6_skipBlanks N (nI len) (nI p) t1 = some (nI (sk T len p)) := by
  have h240 := X.1
  unfold F_X6_skipBlanks sk
  have key : ∀ (m g p : Nat), p + m = len → m < g → F_X6_skipBlanks_0 N (nI len) t1 g (nI p) = some (nI (skN T m p)) := by
    intro m
    induction m with
    | zero =>
      intro g p hp hg
      obtain ⟨g', rfl⟩ : ∃ g', g = g' + 1 := ⟨g - 1, by omega⟩
      show B_X6_skipBlanks_0 N (nI len) t1 (F_X6_skipBlanks_0 N (nI len) t1 g') (nI p) = _
      unfold B_X6_skipBlanks_0
      rw [if_pos (i_le (by omega) (by omega))]
      rfl
    | succ m ih =>
      intro g p hp hg
      obtain ⟨g', rfl⟩ : ∃ g', g = g' + 1 := ⟨g - 1, by omega⟩
      have hx := X.2 p (by omega)
      show B_X6_skipBlanks_0 N (nI len) t1 (F_X6_skipBlanks_0 N (nI len) t1 g') (nI p) = _
      unfold B_X6_skipBlanks_0
      rw [if_neg (i_nle (by omega) (by omega)), bnd_of (atI_in (by omega) (by omega)), hx.2.1, skN]
      by_cases w : T p = 32
      · rw [w, if_pos (show nI 32 = (32 : Int32) from rfl), if_pos rfl, nm_def, i_s]
        exact ih g' (p + 1) (by omega) (by omega)
      · rw [if_neg (ne32 w (by omega)), if_neg w]
  exact key (len - p) N p (by omega) (by omega)
theorem v_here (X : TxT len T t1 t2) {q : Nat} (hq : q ≤ len) : (q = len ∧ F_X6_letterHere (nI len) (nI q) t1 = some (-1)) ∨ (q < len ∧ F_X6_letterHere (nI len) (nI q) t1 = some (nI (T q))) := by
  have h240 := X.1
  unfold F_X6_letterHere
  rcases Nat.lt_or_ge q len with w | w
  · rw [if_neg (i_nle w (by omega)), bnd_of (atI_in (by omega) (by omega)), (X.2 q w).2.1]
    exact Or.inr ⟨w, rfl⟩
  · rw [if_pos (i_le w (by omega))]
    exact Or.inl ⟨by omega, rfl⟩
theorem v_tok_0 (X : TxT len T t1 t2) (ta tk nu fg : Int32) : ∀ (m g p : Nat), p + m = len → m < g → F_X9_nextToken_0 N (nI len) t2 g (nI p) ta tk nu fg = B_X9_nextToken_38 N (nI len) t2 (nI (skN T m p)) ta tk nu fg := by
  have h240 := X.1
  intro m
  induction m with
  | zero =>
    intro g p hp hg
    obtain ⟨g', rfl⟩ : ∃ g', g = g' + 1 := ⟨g - 1, by omega⟩
    show B_X9_nextToken_0 N (nI len) t2 (F_X9_nextToken_0 N (nI len) t2 g') (nI p) ta tk nu fg = _
    unfold B_X9_nextToken_0
    rw [if_pos (i_le (by omega) (by omega))]
    rfl
  | succ m ih =>
    intro g p hp hg
    obtain ⟨g', rfl⟩ : ∃ g', g = g' + 1 := ⟨g - 1, by omega⟩
    have hx := X.2 p (by omega)
    show B_X9_nextToken_0 N (nI len) t2 (F_X9_nextToken_0 N (nI len) t2 g') (nI p) ta tk nu fg = _
    unfold B_X9_nextToken_0
    rw [if_neg (i_nle (by omega) (by omega)), rd_nI (by omega) (by omega), hx.2.2, skN]
    by_cases w : T p = 32
    · rw [w, if_pos (show nI 32 = (32 : Int32) from rfl), if_pos rfl, nm_def, i_s]
      exact ih g' (p + 1) (by omega) (by omega)
    · rw [if_neg (ne32 w (by omega)), if_neg w]
/-! figures of both -/
theorem v_num_26 (X : TxT len T t1 t2) (a b fp ft np : Int32) {q : Nat} : ∀ (m g f : Nat), q + f + m = len → m < g → F_X6_readNumber_26 N (nI len) t1 a b g fp ft (nI (q + f)) np (nI f) (nI (vaN T q f)) = B_X6_readNumber_97 N (nI len) t1 a b fp ft (nI (q + (f + dgN T m (q + f)))) np (nI (f + dgN T m (q + f))) (nI (vaN T q (f + dgN T m (q + f)))) := by
  have h240 := X.1
  intro m
  induction m with
  | zero =>
    intro g f hp hg
    obtain ⟨g', rfl⟩ : ∃ g', g = g' + 1 := ⟨g - 1, by omega⟩
    show B_X6_readNumber_26 N (nI len) t1 a b (F_X6_readNumber_26 N (nI len) t1 a b g') fp ft (nI (q + f)) np (nI f) (nI (vaN T q f)) = _
    unfold B_X6_readNumber_26
    rw [if_pos (i_le (by omega) (by omega))]
    rfl
  | succ m ih =>
    intro g f hp hg
    obtain ⟨g', rfl⟩ : ∃ g', g = g' + 1 := ⟨g - 1, by omega⟩
    have hx := X.2 (q + f) (by omega)
    show B_X6_readNumber_26 N (nI len) t1 a b (F_X6_readNumber_26 N (nI len) t1 a b g') fp ft (nI (q + f)) np (nI f) (nI (vaN T q f)) = _
    unfold B_X6_readNumber_26
    rw [if_neg (i_nle (by omega) (by omega)), bnd_of (atI_in (by omega) (by omega)), hx.2.1, bnd_of (v_isFig hx.1), dgN]
    by_cases w : 48 ≤ T (q + f) ∧ T (q + f) ≤ 57
    · have step := ih g' (f + 1) (by omega) (by omega)
      rw [b2i_1 w, if_neg (by decide), if_pos w, nm_def, i_s]
      rw [show f + (dgN T m (q + f + 1) + 1) = f + 1 + dgN T m (q + (f + 1)) by rw [show q + f + 1 = q + (f + 1) by omega]; omega]
      by_cases z : f < 3
      · rw [if_neg (ngt3 (by omega)), bnd_of (atI_in (by omega) (by omega)), hx.2.1, i_dig w.1, nm_def]
        unfold B_X6_readNumber_84
        rw [nm_def, i_s]
        have e : vaN T q (f + 1) = 10 * vaN T q f + (T (q + f) - 48) := by rw [vaN, if_pos z]
        rw [e] at step
        exact step
      · rw [if_pos (gt3 (by omega) (by omega))]
        unfold B_X6_readNumber_84
        rw [nm_def, i_s]
        have e : vaN T q (f + 1) = vaN T q f := by rw [vaN, if_neg z]
        rw [e] at step
        exact step
    · rw [b2i_0 w, if_pos rfl, if_neg w]
      rfl
theorem v_tok_95 (X : TxT len T t1 t2) (ta tk : Int32) {q : Nat} : ∀ (m g f : Nat), q + f + m = len → m < g → F_X9_nextToken_95 N (nI len) t2 g (nI (q + f)) ta tk (nI (vaN T q f)) (nI f) = some (nI (q + (f + dgN T m (q + f))), ta, -1, nI (vaN T q (f + dgN T m (q + f))), nI (f + dgN T m (q + f))) := by
  have h240 := X.1
  intro m
  induction m with
  | zero =>
    intro g f hp hg
    obtain ⟨g', rfl⟩ : ∃ g', g = g' + 1 := ⟨g - 1, by omega⟩
    show B_X9_nextToken_95 N (nI len) t2 (F_X9_nextToken_95 N (nI len) t2 g') (nI (q + f)) ta tk (nI (vaN T q f)) (nI f) = _
    unfold B_X9_nextToken_95
    rw [if_pos (i_le (by omega) (by omega))]
    rfl
  | succ m ih =>
    intro g f hp hg
    obtain ⟨g', rfl⟩ : ∃ g', g = g' + 1 := ⟨g - 1, by omega⟩
    have hx := X.2 (q + f) (by omega)
    show B_X9_nextToken_95 N (nI len) t2 (F_X9_nextToken_95 N (nI len) t2 g') (nI (q + f)) ta tk (nI (vaN T q f)) (nI f) = _
    unfold B_X9_nextToken_95
    rw [if_neg (i_nle (by omega) (by omega)), rd_nI (by omega) (by omega), hx.2.2, bnd_of (v_inFig hx.1), dgN]
    by_cases w : 48 ≤ T (q + f) ∧ T (q + f) ≤ 57
    · have step := ih g' (f + 1) (by omega) (by omega)
      rw [b2i_1 w, if_neg (by decide), if_pos w]
      rw [show f + (dgN T m (q + f + 1) + 1) = f + 1 + dgN T m (q + (f + 1)) by rw [show q + f + 1 = q + (f + 1) by omega]; omega]
      by_cases z : f < 3
      · rw [if_neg (nge3 (by omega)), rd_nI (by omega) (by omega), hx.2.2, i_dig w.1]
        unfold B_X9_nextToken_161
        rw [nm_def, i_s, nm_def, i_s]
        have e : vaN T q (f + 1) = 10 * vaN T q f + (T (q + f) - 48) := by rw [vaN, if_pos z]
        rw [e] at step
        exact step
      · rw [if_pos (ge3 (by omega) (by omega))]
        unfold B_X9_nextToken_161
        rw [nm_def, i_s, nm_def, i_s]
        have e : vaN T q (f + 1) = vaN T q f := by rw [vaN, if_neg z]
        rw [e] at step
        exact step
    · rw [b2i_0 w, if_pos rfl, if_neg w]
      rfl
/-! the three kinds of word -/
theorem v_tok (hN : 70000 ≤ N) (X : TxT len T t1 t2) {p q : Nat} (hp : p ≤ len) (hq : sk T len p = q) (ta tk nu fg : Int32) :
    (q = len ∧ F_X9_nextToken N (nI len) (nI p) ta tk nu fg t2 = some (nI q, nI q, -2, 0, 0)) ∨
    (q < len ∧ (48 ≤ T q ∧ T q ≤ 57) ∧ 0 < dgN T (len - q) q ∧ F_X9_nextToken N (nI len) (nI p) ta tk nu fg t2 = some (nI (q + dgN T (len - q) q), nI q, -1, nI (vaN T q (dgN T (len - q) q)), nI (dgN T (len - q) q))) ∨
    (q < len ∧ ¬ (48 ≤ T q ∧ T q ≤ 57) ∧ T q ≠ 32 ∧ dgN T (len - q) q = 0 ∧ F_X9_nextToken N (nI len) (nI p) ta tk nu fg t2 = some (nI (q + 1), nI q, nI (T q), 0, 0)) := by
  have h240 := X.1
  have hs := sk_spec (T := T) hp
  rw [hq] at hs
  unfold F_X9_nextToken
  rw [v_tok_0 X ta tk nu fg (len - p) N p (by omega) (by omega), show skN T (len - p) p = q from hq]
  unfold B_X9_nextToken_38
  rcases Nat.lt_or_ge q len with w | w
  · have hx := X.2 q w
    have hd : dgN T (len - q) q = if 48 ≤ T q ∧ T q ≤ 57 then dgN T (len - q - 1) (q + 1) + 1 else 0 := by
      obtain ⟨m, hm⟩ : ∃ m, len - q = m + 1 := ⟨len - q - 1, by omega⟩
      rw [hm, dgN]
      rfl
    rw [if_neg (i_ne (by omega) (by omega) (by omega)), rd_nI (by omega) (by omega), hx.2.2, bnd_of (v_inFig hx.1)]
    by_cases z : 48 ≤ T q ∧ T q ≤ 57
    · rw [b2i_1 z, if_neg (by decide)]
      have h := v_tok_95 (N := N) X (nI q) tk (q := q) (len - q) N 0 (by omega) (by omega)
      rw [Nat.add_zero, Nat.zero_add] at h
      exact Or.inr (Or.inl ⟨w, z, by rw [hd, if_pos z]; omega, h⟩)
    · rw [b2i_0 z, if_pos rfl, rd_nI (by omega) (by omega), hx.2.2, nm_def, i_s]
      refine Or.inr (Or.inr ⟨w, z, ?_, by rw [hd, if_neg z], rfl⟩)
      rcases hs.2.2 with e | e
      · omega
      · exact e
  · have e : q = len := by omega
    rw [if_pos (by rw [e])]
    exact Or.inl ⟨e, rfl⟩
theorem dg_0 (q : Nat) : dgN T (q - q) q = 0 := by rw [Nat.sub_self]; rfl
theorem dg_fig : ∀ (m q i : Nat), i < dgN T m q → 48 ≤ T (q + i) ∧ T (q + i) ≤ 57
  | 0, q, i, h => absurd h (by rw [dgN]; omega)
  | m + 1, q, i, h => by
    rw [dgN] at h
    by_cases w : 48 ≤ T q ∧ T q ≤ 57
    · rw [if_pos w] at h
      by_cases e : i = 0
      · rw [e]; exact w
      · have := dg_fig m (q + 1) (i - 1) (by omega)
        rw [show q + 1 + (i - 1) = q + i by omega] at this
        exact this
    · rw [if_neg w] at h
      omega
/-! the class: a number behind no fault -/
theorem v_rnum (hN : 70000 ≤ N) (X : TxT len T t1 t2) {p q : Nat} (hp : p ≤ len) (hq : sk T len p = q) (fp np a b : Int32) : F_X6_readNumber N (nI len) fp 0 (nI p) np t1 a b = B_X6_readNumber_97 N (nI len) t1 a b fp 0 (nI (q + dgN T (len - q) q)) (nI q) (nI (dgN T (len - q) q)) (nI (vaN T q (dgN T (len - q) q))) := by
  have h240 := X.1
  have hs := sk_spec (T := T) hp
  unfold F_X6_readNumber
  rw [bnd_of (v_skip hN X hp), if_pos rfl, hq]
  rw [hq] at hs
  have h := v_num_26 (N := N) X a b fp 0 (nI q) (q := q) (len - q) N 0 (by omega) (by omega)
  rw [Nat.add_zero, Nat.zero_add] at h
  exact h
theorem num_bad (hN : 70000 ≤ N) (X : TxT len T t1 t2) {p : Nat} (hp : p ≤ len) {ft : Int32} (hf : ft ≠ 0) (fp np a b : Int32) : F_X6_readNumber N (nI len) fp ft (nI p) np t1 a b = some (a, fp, ft, nI (sk T len p), np) := by
  unfold F_X6_readNumber
  rw [bnd_of (v_skip hN X hp), if_neg hf]
theorem com_bad (hN : 70000 ≤ N) (X : TxT len T t1 t2) {p : Nat} (hp : p ≤ len) {ft : Int32} (hf : ft ≠ 0) (fp z : Int32) : F_X6_readComma N (nI len) fp ft (nI p) t1 z = some (0, fp, ft, nI (sk T len p)) := by
  have hs := sk_spec (T := T) hp
  unfold F_X6_readComma
  rw [bnd_of (v_skip hN X hp)]
  unfold B_X6_readComma_41
  rcases v_here X hs.2.1 with ⟨_, e⟩ | ⟨_, e⟩
  · rw [bnd_of e, if_neg hf, if_neg hf]
  · rw [bnd_of e, if_neg hf, if_neg hf]
theorem le_of_not_lt {x y : Int32} (h : ¬ x < y) : y ≤ x := by
  rw [Int32.le_iff_toInt_le]
  rw [Int32.lt_iff_toInt_lt] at h
  omega
theorem not_lt_of_le {x y : Int32} (h : y ≤ x) : ¬ x < y := by
  rw [Int32.le_iff_toInt_le] at h
  rw [Int32.lt_iff_toInt_lt]
  omega
/-! a number, both -/
theorem num_both (hN : 70000 ≤ N) (X : TxT len T t1 t2) {p : Nat} (hp : p ≤ len) (a b fp np fa fi ta tk nu fg : Int32) :
    (∃ (v : Int32) (f x p' : Nat) (np' y1 y2 y3 y4 y5 : Int32), (f = 1 ∨ f = 2) ∧ p' ≤ len ∧ F_X6_readNumber N (nI len) fp 0 (nI p) np t1 a b = some (v, nI x, nI f, nI p', np') ∧ F_X9_isNumber N (nI len) (nI p) ta tk nu fg fa fi t2 a b = some (0, y1, y2, y3, y4, y5, nI x, nI f)) ∨
    (∃ (v x p' : Nat) (y : Int32), p < p' ∧ p' ≤ len ∧ v < 1000 ∧ a ≤ nI v ∧ nI v ≤ b ∧ F_X6_readNumber N (nI len) fp 0 (nI p) np t1 a b = some (nI v, fp, 0, nI p', nI x) ∧ F_X9_isNumber N (nI len) (nI p) ta tk nu fg fa fi t2 a b = some (1, nI p', nI x, -1, nI v, y, fa, fi)) := by
  have h240 := X.1
  have hs := sk_spec (T := T) hp
  obtain ⟨q, hq⟩ : ∃ q, sk T len p = q := ⟨_, rfl⟩
  rw [hq] at hs
  have hd := dgN_le T (len - q) q
  have hv := vaN_sm T q (dgN T (len - q) q) (fun i hi => (dg_fig _ _ _ hi).2)
  rw [v_rnum hN X hp hq fp np a b]
  unfold F_X9_isNumber
  rcases v_tok hN X hp hq ta tk nu fg with ⟨e, ht⟩ | ⟨hl, hf, h0, ht⟩ | ⟨hl, hf, h32, h0, ht⟩
  · refine Or.inl ⟨nI (vaN T q (dgN T (len - q) q)), 1, q, q, nI q, nI q, nI q, -2, 0, 0, Or.inl rfl, hs.2.1, ?_, ?_⟩
    · unfold B_X6_readNumber_97
      rw [show dgN T (len - q) q = 0 by rw [e]; exact dg_0 len, if_pos (show nI 0 = (0 : Int32) from rfl), bnd_of (fail_0 _ _ _)]
      rfl
    · rw [bnd_of ht, if_neg (show ¬ (nI q, nI q, (-2 : Int32), (0 : Int32), (0 : Int32)).2.2.1 = -1 from (by decide : ¬ (-2 : Int32) = -1))]
      rfl
  · generalize dgN T (len - q) q = d at hd hv h0 ht ⊢
    rw [bnd_of ht, if_pos (show (nI (q + d), nI q, (-1 : Int32), nI (vaN T q d), nI d).2.2.1 = -1 from rfl)]
    unfold B_X6_readNumber_97 B_X6_readNumber_130 B_X9_isNumber_38
    have bad : ∃ (v : Int32) (f x p' : Nat) (np' y1 y2 y3 y4 y5 : Int32), (f = 1 ∨ f = 2) ∧ p' ≤ len ∧ bnd (F_X6_fail fp 0 2 (nI q)) (fun o2 => some (nI (vaN T q d), o2.1, o2.2, nI (q + d), nI q)) = some (v, nI x, nI f, nI p', np') ∧ bnd (F_X9_fails (nI q) fa fi 2) (fun o2 => if o2.1 = 0 then some ((0 : Int32), nI (q + d), nI q, (-1 : Int32), nI (vaN T q d), nI d, o2.2.1, o2.2.2) else some ((1 : Int32), nI (q + d), nI q, (-1 : Int32), nI (vaN T q d), nI d, o2.2.1, o2.2.2)) = some (0, y1, y2, y3, y4, y5, nI x, nI f) :=
      ⟨_, 2, q, q + d, _, _, _, _, _, _, Or.inr rfl, by omega, rfl, rfl⟩
    rw [if_neg (ne0 (by omega) (by omega))]
    by_cases c1 : 3 < d
    · rw [if_pos (gt3 c1 (by omega)), if_pos (show (4 : Int32) ≤ nI d from ge4 (by omega) (by omega))]
      exact Or.inl bad
    rw [if_neg (ngt3 (by omega)), if_neg (show ¬ (4 : Int32) ≤ nI d from nge4 (by omega))]
    by_cases c2 : nI (vaN T q d) < a
    · have hin : F_X9_in (nI (vaN T q d)) a b = some 0 := by unfold F_X9_in; rw [if_pos c2]
      rw [if_pos c2, bnd_of hin, if_pos rfl]
      exact Or.inl bad
    by_cases c3 : nI (vaN T q d) ≤ b
    · have hin : F_X9_in (nI (vaN T q d)) a b = some 1 := by unfold F_X9_in; rw [if_neg c2, if_neg (not_lt_of_le c3)]
      rw [if_neg c2, if_pos c3, bnd_of hin, if_neg (show ¬ (1 : Int32) = 0 by decide)]
      exact Or.inr ⟨vaN T q d, q, q + d, _, by omega, by omega, hv.1, le_of_not_lt c2, c3, rfl, rfl⟩
    · have hin : F_X9_in (nI (vaN T q d)) a b = some 0 := by
        unfold F_X9_in
        rw [if_neg c2]
        by_cases z : b < nI (vaN T q d)
        · rw [if_pos z]
        · exact absurd (le_of_not_lt z) c3
      rw [if_neg c2, if_neg c3, bnd_of hin, if_pos rfl]
      exact Or.inl bad
  · refine Or.inl ⟨nI (vaN T q (dgN T (len - q) q)), 1, q, q, nI q, nI (q + 1), nI q, nI (T q), 0, 0, Or.inl rfl, hs.2.1, ?_, ?_⟩
    · unfold B_X6_readNumber_97
      rw [h0, if_pos (show nI 0 = (0 : Int32) from rfl), bnd_of (fail_0 _ _ _)]
      rfl
    · rw [bnd_of ht, if_neg (show ¬ (nI (q + 1), nI q, nI (T q), (0 : Int32), (0 : Int32)).2.2.1 = -1 from i_m1 (by have := (X.2 q hl).1; omega))]
      rfl
/-! ',' and ';', both -/
theorem tok_both (hN : 70000 ≤ N) (X : TxT len T t1 t2) {p : Nat} (hp : p ≤ len) (fp ta tk nu fg : Int32) :
    ∃ (q : Nat) (pos tk' nu' fg' : Int32), p ≤ q ∧ q ≤ len ∧ F_X9_nextToken N (nI len) (nI p) ta tk nu fg t2 = some (pos, nI q, tk', nu', fg') ∧
      ((tk' = 59 ∧ q + 1 ≤ len ∧ pos = nI (q + 1) ∧ ∀ z, F_X6_readComma N (nI len) fp 0 (nI p) t1 z = some (0, fp, 0, nI (q + 1))) ∨
       (tk' = 44 ∧ q + 1 ≤ len ∧ pos = nI (q + 1) ∧ F_X6_readComma N (nI len) fp 0 (nI p) t1 0 = some (0, nI q, 1, nI q) ∧ F_X6_readComma N (nI len) fp 0 (nI p) t1 1 = some (1, fp, 0, nI (q + 1))) ∨
       (tk' ≠ 59 ∧ tk' ≠ 44 ∧ ∀ z, F_X6_readComma N (nI len) fp 0 (nI p) t1 z = some (0, nI q, 1, nI q))) := by
  have h240 := X.1
  have hs := sk_spec (T := T) hp
  obtain ⟨q, hq⟩ : ∃ q, sk T len p = q := ⟨_, rfl⟩
  rw [hq] at hs
  have rc : ∀ (y : Int32), F_X6_letterHere (nI len) (nI q) t1 = some y → ∀ z, F_X6_readComma N (nI len) fp 0 (nI p) t1 z = (if y = (59 : Int32) then some (0, fp, 0, nI (q + 1)) else if z = 0 then some (0, nI q, 1, nI q) else if y = (44 : Int32) then some (1, fp, 0, nI (q + 1)) else some (0, nI q, 1, nI q)) := fun y hy z => by
    unfold F_X6_readComma B_X6_readComma_32 B_X6_readComma_41
    rw [bnd_of (v_skip hN X hp), hq, bnd_of hy, if_pos rfl, bnd_of (fail_0 _ _ _), if_pos rfl, nm_def, i_s, if_neg (show ¬ ((nI q, (1 : Int32)).2) = 0 from (by decide : ¬ (1 : Int32) = 0))]
    by_cases e1 : y = 59
    · rw [if_pos e1, if_pos e1, if_neg (by rw [e1]; decide)]
    · rw [if_neg e1, if_neg e1]
      by_cases e2 : z = 0
      · rw [if_pos e2, if_pos e2]
      · rw [if_neg e2, if_neg e2]
        by_cases e3 : y = 44
        · rw [if_pos e3, if_pos e3, if_pos e3]
        · rw [if_neg e3, if_neg e3]
  have other : ∀ (y : Int32), F_X6_letterHere (nI len) (nI q) t1 = some y → y ≠ 59 → y ≠ 44 → ∀ z, F_X6_readComma N (nI len) fp 0 (nI p) t1 z = some (0, nI q, 1, nI q) := fun y hy h1 h2 z => by
    rw [rc y hy z, if_neg h1, if_neg h2]
    by_cases e2 : z = 0
    · rw [if_pos e2]
    · rw [if_neg e2]
  rcases v_tok hN X hp hq ta tk nu fg with ⟨e, ht⟩ | ⟨hl, hf, h0, ht⟩ | ⟨hl, hf, h32, h0, ht⟩
  · refine ⟨q, _, _, _, _, hs.1, hs.2.1, ht, Or.inr (Or.inr ⟨by decide, by decide, other (-1) ?_ (by decide) (by decide)⟩)⟩
    rcases v_here X hs.2.1 with ⟨_, w⟩ | ⟨w, _⟩
    · exact w
    · omega
  · refine ⟨q, _, _, _, _, hs.1, hs.2.1, ht, Or.inr (Or.inr ⟨by decide, by decide, other (nI (T q)) ?_ (ne59 (by omega) (by omega)) (ne44 (by omega) (by omega))⟩)⟩
    rcases v_here X hs.2.1 with ⟨w, _⟩ | ⟨_, w⟩
    · omega
    · exact w
  · have hy : F_X6_letterHere (nI len) (nI q) t1 = some (nI (T q)) := by
      rcases v_here X hs.2.1 with ⟨w, _⟩ | ⟨_, w⟩
      · omega
      · exact w
    have hb := (X.2 q hl).1
    refine ⟨q, _, _, _, _, hs.1, hs.2.1, ht, ?_⟩
    by_cases e1 : T q = 59
    · refine Or.inl ⟨by rw [e1]; rfl, by omega, rfl, fun z => ?_⟩
      rw [rc _ hy z, if_pos (by rw [e1]; rfl)]
    · by_cases e2 : T q = 44
      · refine Or.inr (Or.inl ⟨by rw [e2]; rfl, by omega, rfl, ?_, ?_⟩)
        · rw [rc _ hy 0, if_neg (ne59 e1 (by omega)), if_pos rfl]
        · rw [rc _ hy 1, if_neg (ne59 e1 (by omega)), if_neg (by decide), if_pos (by rw [e2]; rfl)]
      · exact Or.inr (Or.inr ⟨ne59 e1 (by omega), ne44 e2 (by omega), other _ hy (ne59 e1 (by omega)) (ne44 e2 (by omega))⟩)
/-! the end of a clause, both -/
theorem end_both (hN : 70000 ≤ N) (X : TxT len T t1 t2) {p : Nat} (hp : p ≤ len) (fp fa fi ta tk nu fg : Int32) :
    (∃ (q : Nat) (y1 y2 y3 y4 y5 : Int32), q ≤ len ∧ F_X6_readComma N (nI len) fp 0 (nI p) t1 0 = some (0, nI q, 1, nI q) ∧ F_X9_isEnd N (nI len) (nI p) ta tk nu fg fa fi t2 = some (0, y1, y2, y3, y4, y5, nI q, 1)) ∨
    (∃ (q : Nat) (y2 y3 y4 y5 : Int32), p < q ∧ q ≤ len ∧ F_X6_readComma N (nI len) fp 0 (nI p) t1 0 = some (0, fp, 0, nI q) ∧ F_X9_isEnd N (nI len) (nI p) ta tk nu fg fa fi t2 = some (1, nI q, y2, y3, y4, y5, fa, fi)) := by
  obtain ⟨q, pos, tk', nu', fg', h1, h2, h3, h4⟩ := tok_both hN X hp fp ta tk nu fg
  unfold F_X9_isEnd
  rw [bnd_of h3]
  rcases h4 with ⟨e1, e2, e3, e4⟩ | ⟨e1, e2, e3, e4, e5⟩ | ⟨e1, e2, e4⟩
  · rw [if_pos (show (pos, nI q, tk', nu', fg').2.2.1 = 59 from e1)]
    exact Or.inr ⟨q + 1, _, _, _, _, by omega, e2, e4 0, by rw [e3]⟩
  · rw [if_neg (show ¬ (pos, nI q, tk', nu', fg').2.2.1 = 59 from (by rw [e1]; decide : ¬ tk' = 59))]
    exact Or.inl ⟨q, _, _, _, _, _, h2, e4, rfl⟩
  · rw [if_neg (show ¬ (pos, nI q, tk', nu', fg').2.2.1 = 59 from e1)]
    exact Or.inl ⟨q, _, _, _, _, _, h2, e4 0, rfl⟩
end Text

def frun {ω : Type} (cond : Nat → Bool) (yes : Nat → Option ω) (no : Option ω) : Nat → Nat → Option ω
  | 0, _ => no
  | m + 1, i => if cond i = true then yes i else frun cond yes no m (i + 1)
theorem lq1_frun {ω : Type} {body : (Int32 → Option ω) → Int32 → Option ω} (cond : Nat → Bool) (e : Nat) (yes : Nat → Option ω) (no : Option ω) (hs : ∀ self i, i < e → body self (nI i) = if cond i = true then yes i else self (nI (i + 1))) (hx : ∀ self, body self (nI e) = no) : ∀ N, e < N → lq1 body N (nI 0) = frun cond yes no e 0 := by
  have key : ∀ m f i, i + m = e → m < f → lq1 body f (nI i) = frun cond yes no m i := by
    intro m
    induction m with
    | zero =>
      intro f i hi hf
      obtain ⟨g, rfl⟩ : ∃ g, f = g + 1 := ⟨f - 1, by omega⟩
      have e1 : i = e := by omega
      subst e1
      exact hx _
    | succ m ih =>
      intro f i hi hf
      obtain ⟨g, rfl⟩ : ∃ g, f = g + 1 := ⟨f - 1, by omega⟩
      refine (hs _ i (by omega)).trans ?_
      rw [frun, ← ih g (i + 1) (by omega) (by omega)]
  intro N hN
  exact key e N 0 (by omega) hN
theorem acc_st : ∀ b, b < 9 → ∀ a, a < 9 → (nI b - nI a + 1) - 1 = nI (b + 1) - nI (a + 1) ∧ (nI b - nI a + 1) - 0 = nI (b + 1) - nI a ∧ (nI b - nI a + 0) - 1 = nI b - nI (a + 1) ∧ (nI b - nI a + 0) - 0 = nI b - nI a := by decide +kernel
theorem acc_0 : ∀ b, b < 9 → ∀ a, a < 9 → (nI b - nI a = 0 ↔ b = a) := by decide +kernel
section Alike
variable {n : Nat} {pi lo de fr to : Nat → Nat} {of : Nat → Int32} {N : Nat}
theorem v_X8_manyAt (hN : 70000 ≤ N) (M : MOk n pi lo de fr to of) {tp : Nat → Int32} (ht : ∀ s, s < n → tp s = nI (pi s)) {x : Int32} {q : Nat → Bool} (hq : ∀ i, i < n → bt x i = q i) {v : Nat} (hv : v < 12) : F_X8_manyAt N (nI n) tp x (nI v) = some (nI (cnt (fun s => q s && decide (pi s = v)) n)) := by
  have h8 := M.1
  unfold F_X8_manyAt
  refine lq2_run (fun i => nI (cnt (fun s => q s && decide (pi s = v)) i)) (fun i => nI i) n _ (fun self i hi => ?_) (fun self => ?_) N (by omega)
  · unfold B_X8_manyAt_5
    rw [if_neg (i_nle hi (by omega)), cnt]
    by_cases w : q i = true
    · have hM := M.2 i hi
      rw [if_pos ((bt_one (by omega)).mpr (by rw [hq i hi]; exact w)), bnd_of (atI_in (by omega) (by omega)), ht i hi, w, Bool.true_and]
      by_cases z : pi i = v
      · rw [z, if_pos rfl, nm_def, nm_def, i_s, i_s, if_pos (decide_eq_true rfl)]
      · rw [if_neg (i_ne (by omega) (by omega) z), nm_def, i_s, if_neg (by rw [decide_eq_false z]; decide)]
        rfl
    · have w2 : q i = false := by simpa using w
      rw [if_neg (fun e => w (by rw [← hq i hi]; exact (bt_one (by omega)).mp e)), nm_def, i_s, w2, Bool.false_and, if_neg (by decide)]
      rfl
  · unfold B_X8_manyAt_5
    rw [if_pos (i_le (Nat.le_refl _) (by omega))]
/-- the second's chord, x higher, is not the first's at some pitch -/
def badA (n : Nat) (pi : Nat → Nat) (q1 q2 : Nat → Bool) (x w : Nat) : Bool := !decide (cnt (fun s => q2 s && decide ((pi s + x) % 12 = w)) n = cnt (fun s => q1 s && decide (pi s = w)) n)
def badC (n : Nat) (pi : Nat → Nat) (q1 q2 : Nat → Bool) (x v : Nat) : Bool := !decide (cnt (fun s => q2 s && decide (pi s = v)) n = cnt (fun s => q1 s && decide (pi s = (v + x) % 12)) n)
theorem bad_at (hp : ∀ s, s < n → pi s < 12) (q1 q2 : Nat → Bool) (x : Nat) {v : Nat} (hv : v < 12) : badC n pi q1 q2 x v = badA n pi q1 q2 x ((v + x) % 12) := by
  unfold badC badA
  rw [cnt_congr (p := fun s => q2 s && decide (pi s = v)) (q := fun s => q2 s && decide ((pi s + x) % 12 = (v + x) % 12)) (fun s hs => ?_)]
  have h1 := hp s hs
  show (q2 s && decide (pi s = v)) = (q2 s && decide ((pi s + x) % 12 = (v + x) % 12))
  by_cases e : pi s = v
  · rw [e, decide_eq_true rfl, decide_eq_true rfl]
  · rw [decide_eq_false e, decide_eq_false (by omega)]
theorem bad_eq (hp : ∀ s, s < n → pi s < 12) (q1 q2 : Nat → Bool) {x : Nat} (hx : x < 12) : anyN (badC n pi q1 q2 x) 12 = anyN (badA n pi q1 q2 x) 12 := by
  cases e : anyN (badA n pi q1 q2 x) 12 with
  | true =>
    obtain ⟨w, hw, h⟩ := anyN_iff.mp e
    refine anyN_iff.mpr ⟨(w + (12 - x)) % 12, Nat.mod_lt _ (by decide), ?_⟩
    rw [bad_at hp q1 q2 x (Nat.mod_lt _ (by decide)), show ((w + (12 - x)) % 12 + x) % 12 = w by omega]
    exact h
  | false =>
    refine anyN_no (fun v hv => ?_)
    rw [bad_at hp q1 q2 x hv]
    cases z : badA n pi q1 q2 x ((v + x) % 12) with
    | false => rfl
    | true =>
      rw [anyN_iff.mpr ⟨(v + x) % 12, Nat.mod_lt _ (by decide), z⟩] at e
      cases e
theorem i_m12 {a : Nat} (ha : a < 2147483648) : nI a - nI a / (12 : Int32) * (12 : Int32) = nI (a % 12) := pk_rem (d := 12) ha (by decide) (by decide)
theorem v_X8_isAlikeBy (hN : 70000 ≤ N) (M : MOk n pi lo de fr to of) {tp : Nat → Int32} (ht : ∀ s, s < n → tp s = nI (pi s)) {x1 x2 : Int32} {q1 q2 : Nat → Bool} (hq1 : ∀ i, i < n → bt x1 i = q1 i) (hq2 : ∀ i, i < n → bt x2 i = q2 i) {x : Nat} (hx : x < 12) :
    F_X8_isAlikeBy N (nI n) tp x1 x2 (nI x) = some (b2i (!anyN (badC n pi q1 q2 x) 12)) := by
  have h8 := M.1
  unfold F_X8_isAlikeBy
  rcases lq1_first (body := fun self => B_X8_isAlikeBy_3 N (nI n) tp x1 x2 (nI x) self) (fun v => badC n pi q1 q2 x v) 12 (fun _ => some 0) (some 1) (fun self v hv => by
    show B_X8_isAlikeBy_3 N (nI n) tp x1 x2 (nI x) self (nI v) = _
    unfold B_X8_isAlikeBy_3
    have c1 := cnt_le (p := fun s => q2 s && decide (pi s = v)) n
    have c2 := cnt_le (p := fun s => q1 s && decide (pi s = (v + x) % 12)) n
    rw [if_neg (nge12 hv), bnd_of (v_X8_manyAt hN M ht hq2 hv), nI_add, i_m12 (by omega), nm_def, bnd_of (v_X8_manyAt hN M ht hq1 (Nat.mod_lt _ (by decide))), nm_def, i_s, badC]
    by_cases e : cnt (fun s => q2 s && decide (pi s = v)) n = cnt (fun s => q1 s && decide (pi s = (v + x) % 12)) n
    · rw [e, if_pos rfl, decide_eq_true rfl, if_neg (by decide)]
    · rw [if_neg (i_ne (by omega) (by omega) e), decide_eq_false e, if_pos (by decide)]) (fun self => by
    show B_X8_isAlikeBy_3 N (nI n) tp x1 x2 (nI x) self (nI 12) = _
    unfold B_X8_isAlikeBy_3
    rw [if_pos (ge12 (Nat.le_refl _) (by omega))]) N (by omega) with ⟨i, h1, h2, h3, h4⟩ | ⟨h1, h2⟩
  · rw [anyN_iff.mpr ⟨i, h1, h2⟩]
    exact h4
  · rw [anyN_no h1]
    exact h2
theorem v_X9_alike_51 (hN : 70000 ≤ N) (M : MOk n pi lo de fr to of) (sc : Int32) {row : Nat → Int32} (k1 k2 : Nat) (k26 : Int32 → Option Int32) (k38 : Int32 → Int32 → Int32 → Option Int32) {x w : Nat} (hx : x < 12) (hw : w < 12) (b : Bool) :
    F_X9_alike_51 N sc (nI n) of row (nI k1) (nI k2) k26 k38 N (nI x) (b2i b) (nI w) 0 0 = k38 (nI x) (b2i (b && !badA n pi (innM n row k1) (innM n row k2) x w)) (nI (w + 1)) := by
  have h8 := M.1
  have h := lq5_run (body := fun self => B_X9_alike_51 N sc (nI n) of row (nI k1) (nI k2) k26 k38 self) (fun _ => nI x) (fun _ => b2i b) (fun _ => nI w) (fun i => nI (cnt (fun s => innM n row k2 s && decide ((pi s + x) % 12 = w)) i) - nI (cnt (fun s => innM n row k1 s && decide (pi s = w)) i)) (fun i => nI i) n (k38 (nI x) (b2i (b && !badA n pi (innM n row k1) (innM n row k2) x w)) (nI (w + 1))) (fun self i hi => by
    show B_X9_alike_51 N sc (nI n) of row (nI k1) (nI k2) k26 k38 self _ _ _ _ _ = _
    unfold B_X9_alike_51
    have hM := M.2 i hi
    have hB := cnt_le (p := fun s => innM n row k2 s && decide ((pi s + x) % 12 = w)) i
    have hA := cnt_le (p := fun s => innM n row k1 s && decide (pi s = w)) i
    rw [if_neg (i_nle hi (by omega)), rd_nI (by omega) (by omega), bnd_of (v_X9_pitchOf M hi), nI_add, i_m12 (by omega), nm_def, cnt, cnt]
    generalize cnt (fun s => innM n row k2 s && decide ((pi s + x) % 12 = w)) i = B at hB ⊢
    generalize cnt (fun s => innM n row k1 s && decide (pi s = w)) i = A at hA ⊢
    have hst := acc_st B (by omega) A (by omega)
    have hm := Nat.mod_lt (pi i + x) (by decide : 0 < 12)
    have fin : ∀ z : Bool, B_X9_alike_94 N sc (nI n) of row (nI k1) (nI k2) k26 k38 self (nI x) (b2i b) (nI w) (nI i) (nI B - nI A) (b2i z) = self (nI x) (b2i b) (nI w) (nI (B + if z = true then 1 else 0) - nI (A + if (innM n row k1 i && decide (pi i = w)) = true then 1 else 0)) (nI (i + 1)) := fun z => by
      unfold B_X9_alike_94
      rw [nm_def, rd_nI (by omega) (by omega), bnd_of (v_X9_pitchOf M hi), nm_def, nm_def, i_s]
      by_cases e1 : row i = nI k1
      · rw [if_pos e1]
        by_cases e2 : pi i = w
        · have hv : (if (innM n row k1 i && decide (pi i = w)) = true then 1 else 0) = 1 := if_pos (by rw [show innM n row k1 i = true from decide_eq_true ⟨hi, e1⟩, decide_eq_true e2]; rfl)
          rw [hv, e2, if_pos rfl]
          cases z with
          | true => rw [show b2i true = 1 from rfl, hst.1]; rfl
          | false => rw [show b2i false = 0 from rfl, hst.2.2.1]; rfl
        · have hv : (if (innM n row k1 i && decide (pi i = w)) = true then 1 else 0) = 0 := if_neg (by rw [decide_eq_false e2, Bool.and_false]; decide)
          rw [hv, if_neg (i_ne (by omega) (by omega) e2)]
          cases z with
          | true => rw [show b2i true = 1 from rfl, hst.2.1]; rfl
          | false => rw [show b2i false = 0 from rfl, hst.2.2.2]; rfl
      · have hv : (if (innM n row k1 i && decide (pi i = w)) = true then 1 else 0) = 0 := if_neg (by rw [show innM n row k1 i = false from decide_eq_false (fun q => e1 q.2), Bool.false_and]; decide)
        rw [hv, if_neg e1]
        cases z with
        | true => rw [show b2i true = 1 from rfl, hst.2.1]; rfl
        | false => rw [show b2i false = 0 from rfl, hst.2.2.2]; rfl
    by_cases e1 : row i = nI k2
    · rw [if_pos e1, show innM n row k2 i = true from decide_eq_true ⟨hi, e1⟩, Bool.true_and]
      by_cases e2 : (pi i + x) % 12 = w
      · rw [e2, if_pos rfl, decide_eq_true rfl]
        exact fin true
      · rw [if_neg (i_ne (by omega) (by omega) e2), decide_eq_false e2]
        exact fin false
    · rw [if_neg e1, show innM n row k2 i = false from decide_eq_false (fun q => e1 q.2), Bool.false_and]
      exact fin false) (fun self => by
    show B_X9_alike_51 N sc (nI n) of row (nI k1) (nI k2) k26 k38 self _ _ _ _ _ = _
    unfold B_X9_alike_51
    have hB := cnt_le (p := fun s => innM n row k2 s && decide ((pi s + x) % 12 = w)) n
    have hA := cnt_le (p := fun s => innM n row k1 s && decide (pi s = w)) n
    rw [if_pos (i_le (Nat.le_refl _) (by omega))]
    simp only [nm_def, i_s]
    rw [badA]
    generalize cnt (fun s => innM n row k2 s && decide ((pi s + x) % 12 = w)) n = B at hB ⊢
    generalize cnt (fun s => innM n row k1 s && decide (pi s = w)) n = A at hA ⊢
    have h0 := acc_0 B (by omega) A (by omega)
    cases b with
    | false =>
      rw [if_pos (show b2i false = 0 from rfl)]
      rfl
    | true =>
      rw [if_neg (show ¬ b2i true = 0 by decide), Bool.true_and]
      by_cases e : B = A
      · rw [if_pos (h0.mpr e), decide_eq_true e]
        rfl
      · rw [if_neg (fun q => e (h0.mp q)), decide_eq_false e]
        rfl) N (by omega)
  rw [show (nI (cnt (fun s => innM n row k2 s && decide ((pi s + x) % 12 = w)) 0) - nI (cnt (fun s => innM n row k1 s && decide (pi s = w)) 0) : Int32) = 0 from (by decide : nI 0 - nI 0 = (0 : Int32))] at h
  exact h
theorem v_X9_alike_38 (hN : 70000 ≤ N) (M : MOk n pi lo de fr to of) (sc : Int32) {row : Nat → Int32} (k1 k2 : Nat) (k26 : Int32 → Option Int32) {x : Nat} (hx : x < 12) :
    F_X9_alike_38 N sc (nI n) of row (nI k1) (nI k2) k26 N (nI x) 1 0 = if (!anyN (badA n pi (innM n row k1) (innM n row k2) x) 12) = true then some (nI x) else k26 (nI (x + 1)) := by
  have h := lq3_run (body := fun self => B_X9_alike_38 N sc (nI n) of row (nI k1) (nI k2) k26 self) (fun _ => nI x) (fun i => b2i (!anyN (badA n pi (innM n row k1) (innM n row k2) x) i)) (fun i => nI i) 12 (if (!anyN (badA n pi (innM n row k1) (innM n row k2) x) 12) = true then some (nI x) else k26 (nI (x + 1))) (fun self i hi => by
    show B_X9_alike_38 N sc (nI n) of row (nI k1) (nI k2) k26 self _ _ _ = _
    unfold B_X9_alike_38
    rw [if_neg (nge12 hi), v_X9_alike_51 hN M sc k1 k2 k26 _ hx hi, anyN, Bool.not_or]) (fun self => by
    show B_X9_alike_38 N sc (nI n) of row (nI k1) (nI k2) k26 self _ _ _ = _
    unfold B_X9_alike_38
    rw [if_pos (ge12 (Nat.le_refl _) (by omega)), nm_def, i_s]
    cases anyN (badA n pi (innM n row k1) (innM n row k2) x) 12 with
    | true => rfl
    | false => rfl) N (by omega)
  exact h
end Alike
section Ops
variable {si : Nat → Int32} {fa : Nat → Nat → Int32} {sm : Nat → Int32} {fm : Nat → Nat → Int32} {N : Nat}
theorem op_alike (hN : 70000 ≤ N) (I : Inv si fa sm fm) (p1 p2 : Int32) : ∃ r, F_X8_alike N (si 11) (si 12) (fa 5) (fa 32) p1 p2 = some r ∧ F_X9_alike N (sm 12) (sm 13) (fm 6) (fm 8) p1 p2 = some r := by
  obtain ⟨hTx, hF, n, c, cp, tu, pi, lo, de, fr, to, be, ⟨a1, a2, a3, M, T, a6, a7, a8, a9, a10, a11, a12, a13, a14, a15⟩, hEa, hNt, hI⟩ := id I
  obtain ⟨b1, b2, b3, b4, b5, h, hh, b6, b7⟩ := id hNt
  have h8 := M.1
  unfold F_X8_alike F_X9_alike
  rw [a6, a7, a10, a11]
  rcases no_car (c := c) (by omega) p1 with ⟨e1, e2⟩ | ⟨k1, hk1, rfl, e1, e2⟩
  · rw [bnd_of e1, bnd_of e2, if_neg (show ¬ (1 : Int32) = 0 by decide), if_pos (show (0 : Int32) = 0 from rfl)]
    exact ⟨_, rfl, rfl⟩
  rw [bnd_of e1, bnd_of e2, if_neg (show ¬ (1 : Int32) = 0 by decide), if_pos (show (0 : Int32) = 0 from rfl)]
  rcases no_car (c := c) (by omega) p2 with ⟨e1, e2⟩ | ⟨k2, hk2, rfl, e1, e2⟩
  · rw [bnd_of e1, bnd_of e2, if_neg (show ¬ (1 : Int32) = 0 by decide), if_pos (show (0 : Int32) = 0 from rfl)]
    exact ⟨_, rfl, rfl⟩
  rw [bnd_of e1, bnd_of e2, if_neg (show ¬ (1 : Int32) = 0 by decide), if_pos (show (0 : Int32) = 0 from rfl)]
  by_cases q : nI k1 = nI k2
  · rw [if_pos q, if_pos q]
    exact ⟨_, rfl, rfl⟩
  rw [if_neg q, if_neg q]
  have u1 := lq1_frun (body := fun self => B_X8_alike_26 N (nI c) (nI n) (fa 5) (fa 32) (nI k1) (nI k2) self) (fun x => !anyN (badA n pi (innM n (fm 8) k1) (innM n (fm 8) k2) x) 12) 12 (fun x => some (nI x)) (some (-1)) (fun self x hx => by
    show B_X8_alike_26 N (nI c) (nI n) (fa 5) (fa 32) (nI k1) (nI k2) self (nI x) = _
    unfold B_X8_alike_26
    rw [if_neg (nge12 hx), bnd_of (atI_in (by omega) (by omega)), bnd_of (atI_in (by omega) (by omega)), bnd_of (v_X8_isAlikeBy hN M (fun s hs => (T s hs).1) (fun i _ => b1 k1 (by omega) i) (fun i _ => b1 k2 (by omega) i) hx), bad_eq (fun s hs => (M.2 s hs).2.2.2.2.2.1) _ _ hx, nm_def, i_s]
    cases anyN (badA n pi (innM n (fm 8) k1) (innM n (fm 8) k2) x) 12 with
    | true => rfl
    | false => rfl) (fun self => by
    show B_X8_alike_26 N (nI c) (nI n) (fa 5) (fa 32) (nI k1) (nI k2) self (nI 12) = _
    unfold B_X8_alike_26
    rw [if_pos (ge12 (Nat.le_refl _) (by omega))]) N (by omega)
  have u2 := lq1_frun (body := fun self => B_X9_alike_26 N (nI c) (nI n) (fm 6) (fm 8) (nI k1) (nI k2) self) (fun x => !anyN (badA n pi (innM n (fm 8) k1) (innM n (fm 8) k2) x) 12) 12 (fun x => some (nI x)) (some (-1)) (fun self x hx => by
    show B_X9_alike_26 N (nI c) (nI n) (fm 6) (fm 8) (nI k1) (nI k2) self (nI x) = _
    unfold B_X9_alike_26
    rw [if_neg (nge12 hx)]
    exact v_X9_alike_38 hN M (nI c) k1 k2 self hx) (fun self => by
    show B_X9_alike_26 N (nI c) (nI n) (fm 6) (fm 8) (nI k1) (nI k2) self (nI 12) = _
    unfold B_X9_alike_26
    rw [if_pos (ge12 (Nat.le_refl _) (by omega))]) N (by omega)
  have ex : ∃ r, frun (fun x => !anyN (badA n pi (innM n (fm 8) k1) (innM n (fm 8) k2) x) 12) (fun x => some (nI x)) (some (-1)) 12 0 = some r := by
    have : ∀ m i, ∃ r, frun (fun x => !anyN (badA n pi (innM n (fm 8) k1) (innM n (fm 8) k2) x) 12) (fun x => some (nI x)) (some (-1)) m i = some r := by
      intro m
      induction m with
      | zero => exact fun i => ⟨_, rfl⟩
      | succ m ih =>
        intro i
        rw [frun]
        by_cases w : (!anyN (badA n pi (innM n (fm 8) k1) (innM n (fm 8) k2) i) 12) = true
        · exact ⟨_, if_pos w⟩
        · obtain ⟨r, hr⟩ := ih (i + 1)
          exact ⟨r, (if_neg w).trans hr⟩
    exact this 12 0
  obtain ⟨r, hr⟩ := ex
  exact ⟨r, u1.trans hr, u2.trans hr⟩
end Ops

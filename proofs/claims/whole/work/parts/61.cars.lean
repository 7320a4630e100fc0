/-! clauses k and i, both -/
section Cars
variable {len N : Nat} {T : Nat → Nat} {t1 t2 : Nat → Int32}
theorem fl_ne {f : Nat} (h : 1 ≤ f ∧ f ≤ 4) : nI f ≠ 0 := ne0 (by omega) (by omega)
theorem cars_end (fp ft pl np cr : Int32) (f : Nat → Int32) (y : Int32) (g : Nat) : F_X6_readCars_4 N (nI len) t1 (g + 1) fp ft pl np cr f 0 y = some (fp, ft, pl, np, cr, f) := by
  show B_X6_readCars_4 N (nI len) t1 (F_X6_readCars_4 N (nI len) t1 g) fp ft pl np cr f 0 y = _
  unfold B_X6_readCars_4
  by_cases h : (4 : Int32) ≤ y
  · rw [if_pos h]
  · rw [if_neg h, if_pos rfl]
def BeR (c : Nat) (be : Nat → Nat) (f g : Nat → Int32) : Prop := ∀ i, i < c → f i = nI (be i) ∧ g i = nI (be i) ∧ 1 ≤ be i ∧ be i ≤ 8
theorem cars_both (hN : 70000 ≤ N) (X : TxT len T t1 t2) (fp fa fi : Int32) :
    ∀ (m g g' k p : Nat) (np cr : Int32) (f12 : Nat → Int32) (ta tk nu fg : Int32) (rb : Nat → Int32) (be : Nat → Nat), k + m = 3 → m + 2 < g → m + 2 < g' → p ≤ len → BeR k be f12 rb →
      (∃ (f x p' : Nat) (r1 r2 : Int32) (r3 : Nat → Int32) (y1 y2 y3 y4 y5 y6 : Int32) (y7 : Nat → Int32), (1 ≤ f ∧ f ≤ 4) ∧ p' ≤ len ∧ F_X6_readCars_4 N (nI len) t1 g fp 0 (nI p) np cr f12 1 (nI k) = some (nI x, nI f, nI p', r1, r2, r3) ∧ F_X9_areCars_2 N (nI len) t2 g' (nI p) ta tk nu fg fa fi (nI k) rb 1 = some (0, y1, y2, y3, y4, y5, nI x, nI f, y6, y7)) ∨
      (∃ (p' c : Nat) (be' : Nat → Nat) (r1 : Int32) (f12' : Nat → Int32) (y2 y3 y4 y5 : Int32) (rb' : Nat → Int32), p < p' ∧ p' ≤ len ∧ 1 ≤ c ∧ c ≤ 4 ∧ BeR c be' f12' rb' ∧ F_X6_readCars_4 N (nI len) t1 g fp 0 (nI p) np cr f12 1 (nI k) = some (fp, 0, nI p', r1, nI c, f12') ∧ F_X9_areCars_2 N (nI len) t2 g' (nI p) ta tk nu fg fa fi (nI k) rb 1 = some (1, nI p', y2, y3, y4, y5, fa, fi, nI c, rb')) := by
  intro m
  induction m with
  | zero =>
    intro g g' k p np cr f12 ta tk nu fg rb be hk hg hg' hp hB
    obtain ⟨g, rfl⟩ : ∃ h, g = h + 1 + 1 := ⟨g - 2, by omega⟩
    obtain ⟨g', rfl⟩ : ∃ h, g' = h + 1 + 1 := ⟨g' - 2, by omega⟩
    rw [show F_X6_readCars_4 N (nI len) t1 (g + 1 + 1) fp 0 (nI p) np cr f12 1 (nI k) = B_X6_readCars_4 N (nI len) t1 (F_X6_readCars_4 N (nI len) t1 (g + 1)) fp 0 (nI p) np cr f12 1 (nI k) from rfl, show F_X9_areCars_2 N (nI len) t2 (g' + 1 + 1) (nI p) ta tk nu fg fa fi (nI k) rb 1 = B_X9_areCars_2 N (nI len) t2 (F_X9_areCars_2 N (nI len) t2 (g' + 1)) (nI p) ta tk nu fg fa fi (nI k) rb 1 from rfl]
    unfold B_X6_readCars_4 B_X9_areCars_2
    rw [if_neg (nge4 (by omega)), if_neg (show ¬ (1 : Int32) = 0 by decide), if_neg (show ¬ (1 : Int32) = 0 by decide)]
    rcases num_both hN X hp 1 8 fp np fa fi ta tk nu fg with ⟨v, f, x, p', np', y1, y2, y3, y4, y5, hf, hp', e1, e2⟩ | ⟨v, x, p', y, h1, h2, h3, h4, h5, e1, e2⟩
    · obtain ⟨f12', e3⟩ := lay_any (n := 4) (by omega) f12 (nI k) v
      have hfb : 1 ≤ f ∧ f ≤ 4 := by omega
      rw [bnd_of e1, bnd_of e3, nm_def, i_s, if_pos (ge4 (by omega) (by omega)), bnd_of e2]
      unfold B_X6_readCars_49
      rw [bnd_of (com_bad hN X hp' (fl_ne hfb) _ _), nm_def, cars_end]
      exact Or.inl ⟨f, x, _, _, _, _, _, _, _, _, _, _, _, hfb, (sk_spec hp').2.1, rfl, rfl⟩
    · have hv8 : v ≤ 8 := by
        have h5 : nI v ≤ nI 8 := h5
        rcases Nat.lt_or_ge 8 v with w | w
        · exact absurd h5 (i_nle w (by omega))
        · exact w
      have hv1 : 1 ≤ v := by
        have h4 : nI 1 ≤ nI v := h4
        rcases Nat.lt_or_ge v 1 with w | w
        · exact absurd h4 (i_nle w (by omega))
        · exact w
      have hB' : BeR (k + 1) (fun i => if i = k then v else be i) (upd f12 k (nI v)) (upd rb k (nI v)) := fun i hi => by
        show upd f12 k (nI v) i = nI (if i = k then v else be i) ∧ upd rb k (nI v) i = nI (if i = k then v else be i) ∧ 1 ≤ (if i = k then v else be i) ∧ (if i = k then v else be i) ≤ 8
        by_cases e : i = k
        · rw [e, pk_us, pk_us, if_pos rfl]
          exact ⟨rfl, rfl, hv1, hv8⟩
        · rw [pk_un e, pk_un e, if_neg e]
          exact hB i (by omega)
      rw [bnd_of e1, bnd_of (layI_in (by omega) (by omega)), nm_def, i_s, if_pos (ge4 (by omega) (by omega)), bnd_of e2, if_neg (show ¬ ((1 : Int32), nI p', nI x, (-1 : Int32), nI v, y, fa, fi).1 = 0 from (by decide : ¬ (1 : Int32) = 0)), wr_nI (by omega) (by omega), nm_def]
      obtain ⟨q, pos, tk', nu', fg', q1, q2, q3, q4⟩ := tok_both hN X h2 fp (nI x) (-1) (nI v) y
      rw [bnd_of q3]
      unfold B_X6_readCars_49 B_X9_areCars_67
      rcases q4 with ⟨z1, z2, z3, z4⟩ | ⟨z1, z2, z3, z4, z5⟩ | ⟨z1, z2, z4⟩
      · rw [bnd_of (z4 0), nm_def, cars_end, if_neg (show ¬ (pos, nI q, tk', nu', fg').2.2.1 = 44 from (by rw [z1]; decide : ¬ tk' = 44)), if_pos rfl, if_pos (show (pos, nI q, tk', nu', fg').2.2.1 = 59 from z1)]
        exact Or.inr ⟨q + 1, k + 1, _, _, _, _, _, _, _, _, by omega, z2, by omega, by omega, hB', rfl, by rw [show (pos, nI q, tk', nu', fg').1 = nI (q + 1) from z3]; rfl⟩
      · rw [bnd_of z4, nm_def, cars_end, if_pos (show (pos, nI q, tk', nu', fg').2.2.1 = 44 from z1), if_pos (ge4 (by omega) (by omega)), if_pos rfl, if_neg (show ¬ (pos, nI q, tk', nu', fg').2.2.1 = 59 from (by rw [z1]; decide : ¬ tk' = 59))]
        exact Or.inl ⟨1, q, q, _, _, _, _, _, _, _, _, _, _, by omega, q2, rfl, rfl⟩
      · rw [bnd_of (z4 0), nm_def, cars_end, if_neg (show ¬ (pos, nI q, tk', nu', fg').2.2.1 = 44 from z2), if_pos rfl, if_neg (show ¬ (pos, nI q, tk', nu', fg').2.2.1 = 59 from z1)]
        exact Or.inl ⟨1, q, q, _, _, _, _, _, _, _, _, _, _, by omega, q2, rfl, rfl⟩
  | succ m ih =>
    intro g g' k p np cr f12 ta tk nu fg rb be hk hg hg' hp hB
    obtain ⟨g, rfl⟩ : ∃ h, g = h + 1 + 1 := ⟨g - 2, by omega⟩
    obtain ⟨g', rfl⟩ : ∃ h, g' = h + 1 + 1 := ⟨g' - 2, by omega⟩
    rw [show F_X6_readCars_4 N (nI len) t1 (g + 1 + 1) fp 0 (nI p) np cr f12 1 (nI k) = B_X6_readCars_4 N (nI len) t1 (F_X6_readCars_4 N (nI len) t1 (g + 1)) fp 0 (nI p) np cr f12 1 (nI k) from rfl, show F_X9_areCars_2 N (nI len) t2 (g' + 1 + 1) (nI p) ta tk nu fg fa fi (nI k) rb 1 = B_X9_areCars_2 N (nI len) t2 (F_X9_areCars_2 N (nI len) t2 (g' + 1)) (nI p) ta tk nu fg fa fi (nI k) rb 1 from rfl]
    unfold B_X6_readCars_4 B_X9_areCars_2
    rw [if_neg (nge4 (by omega)), if_neg (show ¬ (1 : Int32) = 0 by decide), if_neg (show ¬ (1 : Int32) = 0 by decide)]
    rcases num_both hN X hp 1 8 fp np fa fi ta tk nu fg with ⟨v, f, x, p', np', y1, y2, y3, y4, y5, hf, hp', e1, e2⟩ | ⟨v, x, p', y, h1, h2, h3, h4, h5, e1, e2⟩
    · obtain ⟨f12', e3⟩ := lay_any (n := 4) (by omega) f12 (nI k) v
      have hfb : 1 ≤ f ∧ f ≤ 4 := by omega
      rw [bnd_of e1, bnd_of e3, nm_def, i_s, if_neg (nge4 (by omega)), bnd_of e2]
      unfold B_X6_readCars_49
      rw [bnd_of (com_bad hN X hp' (fl_ne hfb) _ _), nm_def, cars_end]
      exact Or.inl ⟨f, x, _, _, _, _, _, _, _, _, _, _, _, hfb, (sk_spec hp').2.1, rfl, rfl⟩
    · have hv8 : v ≤ 8 := by
        have h5 : nI v ≤ nI 8 := h5
        rcases Nat.lt_or_ge 8 v with w | w
        · exact absurd h5 (i_nle w (by omega))
        · exact w
      have hv1 : 1 ≤ v := by
        have h4 : nI 1 ≤ nI v := h4
        rcases Nat.lt_or_ge v 1 with w | w
        · exact absurd h4 (i_nle w (by omega))
        · exact w
      have hB' : BeR (k + 1) (fun i => if i = k then v else be i) (upd f12 k (nI v)) (upd rb k (nI v)) := fun i hi => by
        show upd f12 k (nI v) i = nI (if i = k then v else be i) ∧ upd rb k (nI v) i = nI (if i = k then v else be i) ∧ 1 ≤ (if i = k then v else be i) ∧ (if i = k then v else be i) ≤ 8
        by_cases e : i = k
        · rw [e, pk_us, pk_us, if_pos rfl]
          exact ⟨rfl, rfl, hv1, hv8⟩
        · rw [pk_un e, pk_un e, if_neg e]
          exact hB i (by omega)
      rw [bnd_of e1, bnd_of (layI_in (by omega) (by omega)), nm_def, i_s, if_neg (nge4 (by omega)), bnd_of e2, if_neg (show ¬ ((1 : Int32), nI p', nI x, (-1 : Int32), nI v, y, fa, fi).1 = 0 from (by decide : ¬ (1 : Int32) = 0)), wr_nI (by omega) (by omega), nm_def]
      obtain ⟨q, pos, tk', nu', fg', q1, q2, q3, q4⟩ := tok_both hN X h2 fp (nI x) (-1) (nI v) y
      rw [bnd_of q3]
      unfold B_X6_readCars_49 B_X9_areCars_67
      rcases q4 with ⟨z1, z2, z3, z4⟩ | ⟨z1, z2, z3, z4, z5⟩ | ⟨z1, z2, z4⟩
      · rw [bnd_of (z4 1), nm_def, cars_end, if_neg (show ¬ (pos, nI q, tk', nu', fg').2.2.1 = 44 from (by rw [z1]; decide : ¬ tk' = 44)), if_pos rfl, if_pos (show (pos, nI q, tk', nu', fg').2.2.1 = 59 from z1)]
        exact Or.inr ⟨q + 1, k + 1, _, _, _, _, _, _, _, _, by omega, z2, by omega, by omega, hB', rfl, by rw [show (pos, nI q, tk', nu', fg').1 = nI (q + 1) from z3]; rfl⟩
      · subst z3
        rw [bnd_of z5, nm_def, i_s, if_pos (show (nI (q + 1), nI q, tk', nu', fg').2.2.1 = 44 from z1), if_neg (nge4 (by omega)), if_neg (show ¬ (1 : Int32) = 0 by decide)]
        rcases ih (g + 1) (g' + 1) (k + 1) (q + 1) (nI x) (nI (k + 1)) (upd f12 k (nI v)) (nI q) tk' nu' fg' (upd rb k (nI v)) (fun i => if i = k then v else be i) (by omega) (by omega) (by omega) z2 hB' with ⟨f, x', p'', r1, r2, r3, w1, w2, w3, w4, w5, w6, w7, k1, k2, k3, k4⟩ | ⟨p'', c, be', r1, f12', w2, w3, w4, w5, rb', k1, k2, k3, k4, k5, k6, k7⟩
        · exact Or.inl ⟨f, x', p'', r1, r2, r3, w1, w2, w3, w4, w5, w6, w7, k1, k2, k3, k4⟩
        · exact Or.inr ⟨p'', c, be', r1, f12', w2, w3, w4, w5, rb', by omega, k2, k3, k4, k5, k6, k7⟩
      · rw [bnd_of (z4 1), nm_def, cars_end, if_neg (show ¬ (pos, nI q, tk', nu', fg').2.2.1 = 44 from z2), if_pos rfl, if_neg (show ¬ (pos, nI q, tk', nu', fg').2.2.1 = 59 from z1)]
        exact Or.inl ⟨1, q, q, _, _, _, _, _, _, _, _, _, _, by omega, q2, rfl, rfl⟩
/-! clause i -/
theorem law_end (fp ft pl np lt w last y : Int32) (g : Nat) : F_X6_readLaw_17 N (nI len) t1 (g + 1) fp ft pl np lt w last 0 y = some (fp, ft, pl, np, lt, w) := by
  show B_X6_readLaw_17 N (nI len) t1 (F_X6_readLaw_17 N (nI len) t1 g) fp ft pl np lt w last 0 y = _
  unfold B_X6_readLaw_17
  by_cases h : (240 : Int32) ≤ y
  · rw [if_pos h]
  · rw [if_neg h, if_pos rfl]
theorem law_both (hN : 70000 ≤ N) (X : TxT len T t1 t2) (fp fa fi : Int32) :
    ∀ (m g g' k p : Nat) (np w last : Int32) (ta tk nu fg : Int32), k + m = 7 → m + 2 < g → m + 2 < g' → p ≤ len → (∀ i, bt w i = true → i < 7) → ((last = -1 ∧ k = 0) ∨ ∃ l, l < 7 ∧ last = nI l ∧ k ≤ l + 1) →
      (∃ (f x p' : Nat) (r1 r2 r3 : Int32) (y1 y2 y3 y4 y5 y6 : Int32), (1 ≤ f ∧ f ≤ 4) ∧ p' ≤ len ∧ F_X6_readLaw_17 N (nI len) t1 g fp 0 (nI p) np 1 w last 1 (nI k) = some (nI x, nI f, nI p', r1, r2, r3) ∧ F_X9_areIntervals_22 N (nI len) t2 g' (nI p) ta tk nu fg fa fi w last 1 = some (0, y1, y2, y3, y4, y5, nI x, nI f, y6)) ∨
      (∃ (p' : Nat) (w' r1 : Int32) (y2 y3 y4 y5 : Int32), p < p' ∧ p' ≤ len ∧ (∀ i, bt w' i = true → i < 7) ∧ F_X6_readLaw_17 N (nI len) t1 g fp 0 (nI p) np 1 w last 1 (nI k) = some (fp, 0, nI p', r1, 1, w') ∧ F_X9_areIntervals_22 N (nI len) t2 g' (nI p) ta tk nu fg fa fi w last 1 = some (1, nI p', y2, y3, y4, y5, fa, fi, w')) := by
  intro m
  induction m with
  | zero =>
    intro g g' k p np w last ta tk nu fg hk hg hg' hp hw hl
    obtain ⟨g, rfl⟩ : ∃ h, g = h + 1 + 1 := ⟨g - 2, by omega⟩
    obtain ⟨g', rfl⟩ : ∃ h, g' = h + 1 + 1 := ⟨g' - 2, by omega⟩
    rw [show F_X6_readLaw_17 N (nI len) t1 (g + 1 + 1) fp 0 (nI p) np 1 w last 1 (nI k) = B_X6_readLaw_17 N (nI len) t1 (F_X6_readLaw_17 N (nI len) t1 (g + 1)) fp 0 (nI p) np 1 w last 1 (nI k) from rfl, show F_X9_areIntervals_22 N (nI len) t2 (g' + 1 + 1) (nI p) ta tk nu fg fa fi w last 1 = B_X9_areIntervals_22 N (nI len) t2 (F_X9_areIntervals_22 N (nI len) t2 (g' + 1)) (nI p) ta tk nu fg fa fi w last 1 from rfl]
    unfold B_X6_readLaw_17 B_X9_areIntervals_22
    rw [if_neg (nge240 (by omega)), if_neg (show ¬ (1 : Int32) = 0 by decide), if_neg (show ¬ (1 : Int32) = 0 by decide)]
    rcases num_both hN X hp 0 6 fp np fa fi ta tk nu fg with ⟨v, f, x, p', np', y1, y2, y3, y4, y5, hf, hp', e1, e2⟩ | ⟨v, x, p', y, h1, h2, h3, h4, h5, e1, e2⟩
    · have hfb : 1 ≤ f ∧ f ≤ 4 := by omega
      rw [bnd_of e1, bnd_of e2]
      unfold B_X6_readLaw_53
      by_cases c : last < v
      · rw [if_pos c, nm_def, bnd_of (com_bad hN X hp' (fl_ne hfb) _ _), nm_def, law_end]
        exact Or.inl ⟨f, x, _, _, _, _, _, _, _, _, _, _, hfb, (sk_spec hp').2.1, rfl, rfl⟩
      · rw [if_neg c, bnd_of (fail_1 (fl_ne hfb) _ _ _), nm_def, bnd_of (com_bad hN X hp' (fl_ne hfb) _ _), nm_def, law_end]
        exact Or.inl ⟨f, x, _, _, _, _, _, _, _, _, _, _, hfb, (sk_spec hp').2.1, rfl, rfl⟩
    · have hv6 : v ≤ 6 := by
        have h5 : nI v ≤ nI 6 := h5
        rcases Nat.lt_or_ge 6 v with w | w
        · exact absurd h5 (i_nle w (by omega))
        · exact w
      have c : ¬ last < nI v := by
        rcases hl with ⟨_, hl⟩ | ⟨l, hl, e, hl2⟩
        · omega
        · rw [e]
          exact i_nlt (by omega) (by omega)
      rw [bnd_of e1, bnd_of e2, if_neg c, if_neg (show ¬ ((1 : Int32), nI p', nI x, (-1 : Int32), nI v, y, fa, fi).1 = 0 from (by decide : ¬ (1 : Int32) = 0)), if_neg c, bnd_of (fail_0 _ _ _)]
      unfold B_X6_readLaw_53
      rw [nm_def, bnd_of (com_bad hN X h2 (show (4 : Int32) ≠ 0 by decide) _ _), nm_def, law_end]
      exact Or.inl ⟨4, x, _, _, _, _, _, _, _, _, _, _, by omega, (sk_spec h2).2.1, rfl, rfl⟩
  | succ m ih =>
    intro g g' k p np w last ta tk nu fg hk hg hg' hp hw hl
    obtain ⟨g, rfl⟩ : ∃ h, g = h + 1 + 1 := ⟨g - 2, by omega⟩
    obtain ⟨g', rfl⟩ : ∃ h, g' = h + 1 + 1 := ⟨g' - 2, by omega⟩
    rw [show F_X6_readLaw_17 N (nI len) t1 (g + 1 + 1) fp 0 (nI p) np 1 w last 1 (nI k) = B_X6_readLaw_17 N (nI len) t1 (F_X6_readLaw_17 N (nI len) t1 (g + 1)) fp 0 (nI p) np 1 w last 1 (nI k) from rfl, show F_X9_areIntervals_22 N (nI len) t2 (g' + 1 + 1) (nI p) ta tk nu fg fa fi w last 1 = B_X9_areIntervals_22 N (nI len) t2 (F_X9_areIntervals_22 N (nI len) t2 (g' + 1)) (nI p) ta tk nu fg fa fi w last 1 from rfl]
    unfold B_X6_readLaw_17 B_X9_areIntervals_22
    rw [if_neg (nge240 (by omega)), if_neg (show ¬ (1 : Int32) = 0 by decide), if_neg (show ¬ (1 : Int32) = 0 by decide)]
    rcases num_both hN X hp 0 6 fp np fa fi ta tk nu fg with ⟨v, f, x, p', np', y1, y2, y3, y4, y5, hf, hp', e1, e2⟩ | ⟨v, x, p', y, h1, h2, h3, h4, h5, e1, e2⟩
    · have hfb : 1 ≤ f ∧ f ≤ 4 := by omega
      rw [bnd_of e1, bnd_of e2]
      unfold B_X6_readLaw_53
      by_cases c : last < v
      · rw [if_pos c, nm_def, bnd_of (com_bad hN X hp' (fl_ne hfb) _ _), nm_def, law_end]
        exact Or.inl ⟨f, x, _, _, _, _, _, _, _, _, _, _, hfb, (sk_spec hp').2.1, rfl, rfl⟩
      · rw [if_neg c, bnd_of (fail_1 (fl_ne hfb) _ _ _), nm_def, bnd_of (com_bad hN X hp' (fl_ne hfb) _ _), nm_def, law_end]
        exact Or.inl ⟨f, x, _, _, _, _, _, _, _, _, _, _, hfb, (sk_spec hp').2.1, rfl, rfl⟩
    · have hv6 : v ≤ 6 := by
        have h5 : nI v ≤ nI 6 := h5
        rcases Nat.lt_or_ge 6 v with w | w
        · exact absurd h5 (i_nle w (by omega))
        · exact w
      rw [bnd_of e1, bnd_of e2]
      by_cases c : last < nI v
      · have hk' : k + 1 ≤ v + 1 := by
          rcases hl with ⟨_, hl⟩ | ⟨l, hl, e, hl2⟩
          · omega
          · rw [e] at c
            rcases Nat.lt_or_ge l v with z | z
            · omega
            · exact absurd c (i_nlt z (by omega))
        have hw' : ∀ i, bt (w ||| ((1 : Int32) <<< (nI v &&& 31))) i = true → i < 7 := fun i hi => by
          rw [b_or, bt_bit (by omega)] at hi
          rcases (Bool.or_eq_true _ _).mp hi with z | z
          · exact hw i z
          · have := of_decide_eq_true z
            omega
        rw [if_pos c, if_neg (show ¬ ((1 : Int32), nI p', nI x, (-1 : Int32), nI v, y, fa, fi).1 = 0 from (by decide : ¬ (1 : Int32) = 0)), if_pos c, nm_def]
        obtain ⟨q, pos, tk', nu', fg', q1, q2, q3, q4⟩ := tok_both hN X h2 fp (nI x) (-1) (nI v) y
        rw [bnd_of q3]
        unfold B_X6_readLaw_53 B_X9_areIntervals_90
        rcases q4 with ⟨z1, z2, z3, z4⟩ | ⟨z1, z2, z3, z4, z5⟩ | ⟨z1, z2, z4⟩
        · rw [nm_def, bnd_of (z4 1), nm_def, law_end, if_neg (show ¬ (pos, nI q, tk', nu', fg').2.2.1 = 44 from (by rw [z1]; decide : ¬ tk' = 44)), if_pos rfl, if_pos (show (pos, nI q, tk', nu', fg').2.2.1 = 59 from z1)]
          exact Or.inr ⟨q + 1, _, _, _, _, _, _, by omega, z2, hw', rfl, by rw [show (pos, nI q, tk', nu', fg').1 = nI (q + 1) from z3]; rfl⟩
        · subst z3
          rw [nm_def, bnd_of z5, nm_def, i_s, if_pos (show (nI (q + 1), nI q, tk', nu', fg').2.2.1 = 44 from z1), if_neg (show ¬ (1 : Int32) = 0 by decide)]
          rcases ih (g + 1) (g' + 1) (k + 1) (q + 1) (nI x) _ (nI v) (nI q) tk' nu' fg' (by omega) (by omega) (by omega) z2 hw' (Or.inr ⟨v, by omega, rfl, hk'⟩) with ⟨f, x', p'', r1, r2, r3, w1, w2, w3, w4, w5, w6, k1, k2, k3, k4⟩ | ⟨p'', w', r1, w2, w3, w4, w5, k1, k2, k3, k4, k5⟩
          · exact Or.inl ⟨f, x', p'', r1, r2, r3, w1, w2, w3, w4, w5, w6, k1, k2, k3, k4⟩
          · exact Or.inr ⟨p'', w', r1, w2, w3, w4, w5, by omega, k2, k3, k4, k5⟩
        · rw [nm_def, bnd_of (z4 1), nm_def, law_end, if_neg (show ¬ (pos, nI q, tk', nu', fg').2.2.1 = 44 from z2), if_pos rfl, if_neg (show ¬ (pos, nI q, tk', nu', fg').2.2.1 = 59 from z1)]
          exact Or.inl ⟨1, q, q, _, _, _, _, _, _, _, _, _, by omega, q2, rfl, rfl⟩
      · rw [if_neg c, if_neg (show ¬ ((1 : Int32), nI p', nI x, (-1 : Int32), nI v, y, fa, fi).1 = 0 from (by decide : ¬ (1 : Int32) = 0)), if_neg c, bnd_of (fail_0 _ _ _)]
        unfold B_X6_readLaw_53
        rw [nm_def, bnd_of (com_bad hN X h2 (show (4 : Int32) ≠ 0 by decide) _ _), nm_def, law_end]
        exact Or.inl ⟨4, x, _, _, _, _, _, _, _, _, _, _, by omega, (sk_spec h2).2.1, rfl, rfl⟩
end Cars

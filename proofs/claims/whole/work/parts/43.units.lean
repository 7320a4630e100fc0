/-! units: a sleeper alone or a couple, in the order of their first ones -/
def isF (ma : Nat → Int32) (s : Nat) : Bool := decide (ma s = -1 ∨ ¬ ma s ≤ nI s)
def uN (ma : Nat → Int32) (s : Nat) : Nat := cnt (isF ma) s
def uO (ma : Nat → Int32) (s : Nat) : Nat := if isF ma s = true then uN ma s else uN ma (ma s).toNatClampNeg
def fU (ma : Nat → Int32) : Nat → Nat → Nat
  | 0, _ => 0
  | s + 1, u => if isF ma s = true ∧ uN ma s = u then s else fU ma s u
section Units
variable {n : Nat} {ma : Nat → Int32}
theorem uN_mono {s t : Nat} (h : s ≤ t) : uN ma s ≤ uN ma t := by
  obtain ⟨d, rfl⟩ : ∃ d, t = s + d := ⟨t - s, by omega⟩
  clear h
  induction d with
  | zero => exact Nat.le_refl _
  | succ d ih =>
    have e : uN ma (s + (d + 1)) = uN ma (s + d) + if isF ma (s + d) = true then 1 else 0 := rfl
    omega
theorem uN_lt {s t : Nat} (hs : isF ma s = true) (h : s < t) : uN ma s < uN ma t := by
  have e : uN ma (s + 1) = uN ma s + if isF ma s = true then 1 else 0 := rfl
  rw [if_pos hs] at e
  have := uN_mono (ma := ma) (show s + 1 ≤ t by omega)
  omega
theorem uN_inj {s t : Nat} (hs : isF ma s = true) (ht : isF ma t = true) (h : uN ma s = uN ma t) : s = t := by
  rcases Nat.lt_trichotomy s t with q | q | q
  · have := uN_lt hs q; omega
  · exact q
  · have := uN_lt ht q; omega
theorem uO_cases (h8 : n ≤ 8) (hm : MaG n ma) {s : Nat} (hs : s < n) : (isF ma s = true ∧ uO ma s = uN ma s) ∨ ∃ m, m < s ∧ ma s = nI m ∧ ma m = nI s ∧ isF ma m = true ∧ isF ma s = false ∧ uO ma s = uN ma m := by
  by_cases q : isF ma s = true
  · exact Or.inl ⟨q, if_pos q⟩
  · have q2 : isF ma s = false := by simpa using q
    have q3 := of_decide_eq_false q2
    rcases hm s hs with z | ⟨m, z1, z2, z3, z4⟩
    · exact absurd (Or.inl z) q3
    · have l : m < s := by
        rcases Nat.lt_or_ge m s with w | w
        · exact w
        · exact absurd (Or.inr (by rw [z3]; exact i_nle (by omega) (by omega))) q3
      refine Or.inr ⟨m, l, z3, z4, decide_eq_true (Or.inr (by rw [z4]; exact i_nle l (by omega))), q2, ?_⟩
      unfold uO
      rw [if_neg q, z3, nI_clamp (by omega)]
theorem uO_lt (h8 : n ≤ 8) (hm : MaG n ma) {s : Nat} (hs : s < n) : uO ma s < uN ma n := by
  rcases uO_cases h8 hm hs with ⟨q, e⟩ | ⟨m, l, z1, z2, q, _, e⟩
  · rw [e]; exact uN_lt q hs
  · rw [e]; exact uN_lt q (by omega)
theorem uO_below (h8 : n ≤ 8) (hm : MaG n ma) {s t : Nat} (hs : s < n) (ht : isF ma t = true) (h : s < t) : uO ma s < uN ma t := by
  rcases uO_cases h8 hm hs with ⟨q, e⟩ | ⟨m, l, z1, z2, q, _, e⟩
  · rw [e]; exact uN_lt q h
  · rw [e]; exact uN_lt q (by omega)
theorem uO_mate (h8 : n ≤ 8) (hm : MaG n ma) {s m : Nat} (hs : s < n) (hmn : m < n) (e : ma s = nI m) : uO ma m = uO ma s := by
  have back : ∀ {a b}, a < n → b < n → ma a = nI b → isF ma a = true → uO ma b = uO ma a := fun {a b} ha hb e q => by
    have ea : uO ma a = uN ma a := if_pos q
    rcases hm a ha with z | ⟨m', z1, z2, z3, z4⟩
    · exact absurd (z.symm.trans e) (i_m1' (by omega))
    · have e2 : m' = b := i_inj (by omega) (by omega) (z3.symm.trans e)
      subst e2
      rcases uO_cases h8 hm hb with ⟨w, w2⟩ | ⟨k, l, y1, y2, y3, _, y4⟩
      · have q3 := of_decide_eq_true q
        have w3 := of_decide_eq_true w
        rw [e] at q3
        rw [z4] at w3
        have l1 : ¬ nI m' ≤ nI a := by
          rcases q3 with q3 | q3
          · exact absurd q3 (i_m1 (by omega))
          · exact q3
        have l2 : ¬ nI a ≤ nI m' := by
          rcases w3 with w3 | w3
          · exact absurd w3 (i_m1 (by omega))
          · exact w3
        rcases Nat.lt_or_ge a m' with l | l
        · exact absurd (i_le (by omega) (by omega)) l2
        · exact absurd (i_le l (by omega)) l1
      · have e3 : k = a := i_inj (by omega) (by omega) (y1.symm.trans z4)
        rw [y4, e3, ea]
  rcases uO_cases h8 hm hs with ⟨q, e1⟩ | ⟨k, l, y1, y2, y3, _, y4⟩
  · exact back hs hmn e q
  · have e3 : k = m := i_inj (by omega) (by omega) (y1.symm.trans e)
    subst e3
    exact (back hmn hs y2 y3).symm
theorem uN_ex : ∀ {n u : Nat}, u < uN ma n → ∃ s, s < n ∧ isF ma s = true ∧ uN ma s = u
  | 0, u, h => absurd h (by show ¬ u < 0; omega)
  | n + 1, u, h => by
    have e : uN ma (n + 1) = uN ma n + if isF ma n = true then 1 else 0 := rfl
    rcases Nat.lt_or_ge u (uN ma n) with q | q
    · obtain ⟨s, h1, h2⟩ := uN_ex q
      exact ⟨s, by omega, h2⟩
    · by_cases w : isF ma n = true
      · rw [if_pos w] at e
        exact ⟨n, by omega, w, by omega⟩
      · rw [if_neg w] at e
        omega
theorem fU_eq : ∀ {n s : Nat}, s < n → isF ma s = true → fU ma n (uN ma s) = s
  | 0, s, h, _ => absurd h (by omega)
  | n + 1, s, h, q => by
    rw [fU]
    by_cases e : s = n
    · subst e
      rw [if_pos ⟨q, rfl⟩]
    · rw [if_neg (fun w => e (uN_inj q w.1 w.2.symm))]
      exact fU_eq (by omega) q
theorem uN_le : ∀ n, uN ma n ≤ n := fun n => cnt_le n
/-! bits of a unit -/
theorem unit_1 (h8 : n ≤ 8) (hm : MaG n ma) {s : Nat} (hs : s < n) (q : isF ma s = true) (z : ma s = -1) (t : Nat) : decide (t = s) = decide (t < n ∧ uO ma t = uN ma s) := by
  by_cases e : t = s
  · subst e
    rw [decide_eq_true rfl, decide_eq_true ⟨hs, if_pos q⟩]
  · rw [decide_eq_false e, decide_eq_false]
    rintro ⟨ht, w⟩
    rcases uO_cases h8 hm ht with ⟨y, y2⟩ | ⟨m, l, y1, y2, y3, _, y4⟩
    · exact e (uN_inj y q (y2.symm.trans w))
    · have e2 := uN_inj y3 q (y4.symm.trans w)
      subst e2
      exact i_m1 (by omega) (y2.symm.trans z)
theorem unit_2 (h8 : n ≤ 8) (hm : MaG n ma) {s m : Nat} (hs : s < n) (hmn : m < n) (q : isF ma s = true) (z : ma s = nI m) (t : Nat) : (decide (t = s) || decide (t = m)) = decide (t < n ∧ uO ma t = uN ma s) := by
  have es : uO ma s = uN ma s := if_pos q
  by_cases e : t = s
  · subst e
    rw [decide_eq_true (p := t = t) rfl, decide_eq_true (p := t < n ∧ uO ma t = uN ma t) ⟨hs, es⟩]
    rfl
  · rw [decide_eq_false e, Bool.false_or]
    by_cases e3 : t = m
    · subst e3
      rw [decide_eq_true rfl, decide_eq_true ⟨hmn, (uO_mate h8 hm hs hmn z).trans es⟩]
    · rw [decide_eq_false e3, decide_eq_false]
      rintro ⟨ht, w⟩
      rcases uO_cases h8 hm ht with ⟨y, y2⟩ | ⟨k, l, y1, y2, y3, _, y4⟩
      · exact e (uN_inj y q (y2.symm.trans w))
      · have e2 := uN_inj y3 q (y4.symm.trans w)
        subst e2
        exact e3 (i_inj (by omega) (by omega) (y2.symm.trans z))
end Units
section Gather
variable {n : Nat} {ma f10 : Nat → Int32} {N : Nat}
def unB (n : Nat) (ma : Nat → Int32) (un : Nat → Int32) (U : Nat) : Prop := ∀ u, u < U → ∀ t, t < 32 → bt (un u) t = decide (t < n ∧ uO ma t = u)
theorem v_X1_gather (hN : 70000 ≤ N) (h8 : n ≤ 8) (hm : MaG n ma) (he : ∀ s, s < n → f10 s = ma s) (x0 : Int32) (un0 uc0 : Nat → Int32) :
    ∃ all un uc, F_X1_gatherUnits N x0 un0 uc0 (nI n) f10 = some (all, nI (uN ma n), un, uc) ∧ unB n ma un (uN ma n) ∧ (∀ u, u < uN ma n → uc u = 0) ∧ ∀ t, t < 32 → bt all t = decide (t < n) := by
  unfold F_X1_gatherUnits
  have key : ∀ q g i (un uc : Nat → Int32) (al : Int32), i + q = n → q < g → unB n ma un (uN ma i) → (∀ u, u < uN ma i → uc u = 0) → (∀ t, t < 32 → bt al t = decide (t < n ∧ uO ma t < uN ma i)) →
      ∃ all un' uc', F_X1_gatherUnits_9 N (nI n) f10 g (nI (uN ma i)) un uc al (nI i) = some (all, nI (uN ma n), un', uc') ∧ unB n ma un' (uN ma n) ∧ (∀ u, u < uN ma n → uc' u = 0) ∧ ∀ t, t < 32 → bt all t = decide (t < n) := by
    intro q
    induction q with
    | zero =>
      intro g i un uc al hi hg h1 h2 h3
      obtain ⟨g', rfl⟩ : ∃ g', g = g' + 1 := ⟨g - 1, by omega⟩
      have e : i = n := by omega
      subst e
      refine ⟨al, un, uc, ?_, h1, h2, fun t ht => ?_⟩
      · show B_X1_gatherUnits_9 N (nI i) f10 (F_X1_gatherUnits_9 N (nI i) f10 g') (nI (uN ma i)) un uc al (nI i) = _
        unfold B_X1_gatherUnits_9
        rw [if_pos (i_le (Nat.le_refl _) (by omega))]
      · rw [h3 t ht]
        by_cases w : t < i
        · rw [decide_eq_true w, decide_eq_true ⟨w, uO_lt h8 hm w⟩]
        · rw [decide_eq_false w, decide_eq_false (fun y => w y.1)]
    | succ q ih =>
      intro g i un uc al hi hg h1 h2 h3
      obtain ⟨g', rfl⟩ : ∃ g', g = g' + 1 := ⟨g - 1, by omega⟩
      have hin : i < n := by omega
      have hui := uN_le (ma := ma) i
      have es : uN ma (i + 1) = uN ma i + if isF ma i = true then 1 else 0 := rfl
      rw [show F_X1_gatherUnits_9 N (nI n) f10 (g' + 1) (nI (uN ma i)) un uc al (nI i) = B_X1_gatherUnits_9 N (nI n) f10 (F_X1_gatherUnits_9 N (nI n) f10 g') (nI (uN ma i)) un uc al (nI i) from rfl]
      have fin : ∀ z : Int32, isF ma i = true → (∀ t, t < 32 → bt z t = decide (t < n ∧ uO ma t = uN ma i)) → ∃ all un' uc', B_X1_gatherUnits_59 N (nI n) f10 (F_X1_gatherUnits_9 N (nI n) f10 g') (nI (uN ma i)) un uc al (nI i) z = some (all, nI (uN ma n), un', uc') ∧ unB n ma un' (uN ma n) ∧ (∀ u, u < uN ma n → uc' u = 0) ∧ ∀ t, t < 32 → bt all t = decide (t < n) := fun z hq hz => by
        unfold B_X1_gatherUnits_59
        rw [bnd_of (layI_in (by omega) (by omega)), bnd_of (layI_in (by omega) (by omega)), nm_def, nm_def, nm_def, i_s, i_s]
        rw [if_pos hq] at es
        rw [← es]
        refine ih g' (i + 1) _ _ _ (by omega) (by omega) (fun u hu t ht => ?_) (fun u hu => ?_) (fun t ht => ?_)
        · by_cases e : u = uN ma i
          · subst e
            rw [pk_us]
            exact hz t ht
          · rw [pk_un e]
            exact h1 u (by omega) t ht
        · by_cases e : u = uN ma i
          · subst e
            rw [pk_us]
          · rw [pk_un e]
            exact h2 u (by omega)
        · rw [b_or, h3 t ht, hz t ht]
          by_cases w : t < n ∧ uO ma t < uN ma (i + 1)
          · rw [decide_eq_true w]
            by_cases y : uO ma t = uN ma i
            · rw [decide_eq_true (p := t < n ∧ uO ma t = uN ma i) ⟨w.1, y⟩, Bool.or_true]
            · rw [decide_eq_true (p := t < n ∧ uO ma t < uN ma i) ⟨w.1, by omega⟩, Bool.true_or]
          · rw [decide_eq_false w, decide_eq_false (p := t < n ∧ uO ma t = uN ma i) (fun y => w ⟨y.1, by omega⟩), decide_eq_false (p := t < n ∧ uO ma t < uN ma i) (fun y => w ⟨y.1, by omega⟩)]
            rfl
      unfold B_X1_gatherUnits_9
      rw [if_neg (i_nle hin (by omega)), bnd_of (atI_in (by omega) (by omega)), he i hin]
      rcases hm i hin with z | ⟨m, z1, z2, z3, z4⟩
      · have hq : isF ma i = true := decide_eq_true (Or.inl z)
        rw [if_pos z]
        unfold B_X1_gatherUnits_39
        rw [if_pos z]
        exact fin _ hq (fun t ht => by rw [bt_bit (by omega)]; exact unit_1 h8 hm hin hq z t)
      · rw [z3, if_neg (i_m1 (by omega))]
        by_cases w : m ≤ i
        · have hq : isF ma i = false := decide_eq_false (by
            rintro (y | y)
            · exact i_m1 (by omega) (z3.symm.trans y)
            · exact y (by rw [z3]; exact i_le w (by omega)))
          rw [if_neg (by rw [hq]; decide)] at es
          rw [if_pos (i_le w (by omega)), nm_def, i_s]
          have e : uN ma (i + 1) = uN ma i := es
          rw [← e]
          exact ih g' (i + 1) _ _ _ (by omega) (by omega) (by rw [e]; exact h1) (by rw [e]; exact h2) (by rw [e]; exact h3)
        · have hq : isF ma i = true := decide_eq_true (Or.inr (by rw [z3]; exact i_nle (by omega) (by omega)))
          rw [if_neg (i_nle (by omega) (by omega))]
          unfold B_X1_gatherUnits_39
          rw [if_neg (i_m1 (by omega)), nm_def]
          exact fin _ hq (fun t ht => by rw [b_or, bt_bit (by omega), bt_bit (by omega)]; exact unit_2 h8 hm hin z1 hq z3 t)
  exact key n N 0 un0 uc0 0 (by omega) (by omega) (fun u hu => absurd hu (by show ¬ u < 0; omega)) (fun u hu => absurd hu (by show ¬ u < 0; omega)) (fun t ht => by
    rw [b_0, decide_eq_false (fun w => by have h : uO ma t < 0 := w.2; omega)])
end Gather

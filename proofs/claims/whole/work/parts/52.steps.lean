/-! the class's list of moves: what it holds behind the moves below q -/
def GoI (row : Nat → Int32) (p : Nat) (l r s : Int32) : Prop := ∃ k j, k < 4 ∧ j < 4 ∧ k ≠ j ∧ l = nI k ∧ r = nI j ∧ row (mA p) = nI k ∧ ((p < 100 ∧ j = mB p ∧ ∀ t, bt s t = decide (t = mA p)) ∨ (100 ≤ p ∧ row (mB p) = nI j ∧ ∀ t, bt s t = (decide (t = mA p) || decide (t = mB p))))
def StL (n c : Nat) (be : Nat → Nat) (row : Nat → Int32) (L : Nat) (P : Nat → Nat) (cd lf rt st : Nat → Int32) (q : Nat) : Prop := (∀ i, i < L → P i < q ∧ legM n c be row (P i) ∧ cd i = nI (P i) ∧ GoI row (P i) (lf i) (rt i) (st i)) ∧ (∀ i j, i < j → j < L → P i < P j) ∧ ∀ p, p < q → legM n c be row p → ∃ i, i < L ∧ P i = p
def tri : Nat → Nat
  | 0 => 0
  | m + 1 => tri m + m
section Steps
variable {n c : Nat} {be : Nat → Nat} {row : Nat → Int32}
theorem StL_0 (cd lf rt st : Nat → Int32) : StL n c be row 0 (fun _ => 0) cd lf rt st 0 := ⟨fun i hi => absurd hi (by omega), fun i j _ hj => absurd hj (by omega), fun p hp => absurd hp (by omega)⟩
theorem StL_skip {L : Nat} {P : Nat → Nat} {cd lf rt st : Nat → Int32} {q q' : Nat} (S : StL n c be row L P cd lf rt st q) (h : q ≤ q') (hn : ∀ p, q ≤ p → p < q' → ¬ legM n c be row p) : StL n c be row L P cd lf rt st q' :=
  ⟨fun i hi => ⟨by have := (S.1 i hi).1; omega, (S.1 i hi).2⟩, S.2.1, fun p hp l => by
    rcases Nat.lt_or_ge p q with w | w
    · exact S.2.2 p w l
    · exact absurd l (hn p w hp)⟩
theorem StL_app {L : Nat} {P : Nat → Nat} {cd lf rt st : Nat → Int32} {q : Nat} (S : StL n c be row L P cd lf rt st q) (l : legM n c be row q) {x y z w : Int32} (hx : x = nI q) (g : GoI row q y z w) : StL n c be row (L + 1) (fun i => if i = L then q else P i) (upd cd L x) (upd lf L y) (upd rt L z) (upd st L w) (q + 1) := by
  refine ⟨fun i hi => ?_, fun i j hij hj => ?_, fun p hp lp => ?_⟩
  · show (if i = L then q else P i) < q + 1 ∧ legM n c be row (if i = L then q else P i) ∧ upd cd L x i = nI (if i = L then q else P i) ∧ GoI row (if i = L then q else P i) (upd lf L y i) (upd rt L z i) (upd st L w i)
    by_cases e : i = L
    · rw [if_pos e, e, pk_us, pk_us, pk_us, pk_us]
      exact ⟨by omega, l, hx, g⟩
    · rw [if_neg e, pk_un e, pk_un e, pk_un e, pk_un e]
      obtain ⟨a1, a2, a3, a4⟩ := S.1 i (by omega)
      exact ⟨by omega, a2, a3, a4⟩
  · show (if i = L then q else P i) < (if j = L then q else P j)
    rw [if_neg (by omega)]
    by_cases e : j = L
    · rw [if_pos e]
      exact (S.1 i (by omega)).1
    · rw [if_neg e]
      exact S.2.1 i j hij (by omega)
  · show ∃ i, i < L + 1 ∧ (if i = L then q else P i) = p
    by_cases e : p = q
    · exact ⟨L, by omega, by rw [if_pos rfl, e]⟩
    · obtain ⟨i, h1, h2⟩ := S.2.2 p (by omega) lp
      exact ⟨i, by omega, by rw [if_neg (by omega), h2]⟩
theorem v_X5_append {L : Nat} (hL : L < 52) (cd lf rt st : Nat → Int32) (x y z w : Int32) : F_X5_append (nI L) cd lf rt st x y z w = some (nI (L + 1), upd cd L x, upd lf L y, upd rt L z, upd st L w) := by
  unfold F_X5_append
  rw [bnd_of (layI_in hL (by omega)), bnd_of (layI_in hL (by omega)), bnd_of (layI_in hL (by omega)), bnd_of (layI_in hL (by omega)), nm_def, i_s]
theorem i_put (s k : Nat) : (10 : Int32) * nI s + nI k = nI (10 * s + k) := by rw [show (10 : Int32) = nI 10 from rfl, pk_mul, nI_add]
theorem i_exc (a b : Nat) : (100 : Int32) + (10 : Int32) * nI a + nI b = nI (100 + 10 * a + b) := by rw [show (10 : Int32) = nI 10 from rfl, show (100 : Int32) = nI 100 from rfl, pk_mul, nI_add, nI_add]
theorem b2i_0 {P : Prop} [Decidable P] (h : ¬ P) : b2i (decide P) = 0 := by rw [decide_eq_false h]; rfl
theorem b2i_1 {P : Prop} [Decidable P] (h : P) : b2i (decide P) = 1 := by rw [decide_eq_true h]; rfl
variable {crews f4 : Nat → Int32} {N : Nat}
/-! puts of one sleeper -/
theorem v_list_25 (h8 : n ≤ 8) (hc4 : c ≤ 4) (hb : ∀ k, k < c → f4 k = nI (be k) ∧ be k ≤ 8) (R : RwOk n c be row) (hc : Cr n row crews) (k7 : Int32 → (Nat → Int32) → (Nat → Int32) → (Nat → Int32) → (Nat → Int32) → Int32 → Option (Int32 × (Nat → Int32) × (Nat → Int32) × (Nat → Int32) × (Nat → Int32))) {s : Nat} (hs : s < n) :
    ∀ (m g k : Nat) (L : Nat) (P : Nat → Nat) (cd lf rt st : Nat → Int32), k + m = c → m < g → StL n c be row L P cd lf rt st (10 * s + k) → ((row s = -1 ∧ L ≤ 3 * s) ∨ ∃ f, f < c ∧ row s = nI f ∧ L + (if f < k then 1 else 0) ≤ 3 * s + k) →
      ∃ L' P' cd' lf' rt' st', F_X5_list_25 N 4 (nI c) (nI n) f4 crews k7 g (nI L) cd lf rt st (nI s) (row s) (nI k) = k7 (nI L') cd' lf' rt' st' (nI (s + 1)) ∧ StL n c be row L' P' cd' lf' rt' st' (10 * (s + 1)) ∧ L' ≤ 3 * (s + 1) := by
  intro m
  induction m with
  | zero =>
    intro g k L P cd lf rt st hk hg S hL
    obtain ⟨g', rfl⟩ : ∃ g', g = g' + 1 := ⟨g - 1, by omega⟩
    have e : k = c := by omega
    subst e
    refine ⟨L, P, cd, lf, rt, st, ?_, StL_skip S (by omega) (fun p h1 h2 l => ?_), ?_⟩
    · show B_X5_list_25 N 4 (nI k) (nI n) f4 crews k7 (F_X5_list_25 N 4 (nI k) (nI n) f4 crews k7 g') (nI L) cd lf rt st (nI s) (row s) (nI k) = _
      unfold B_X5_list_25
      rw [if_pos (i_le (Nat.le_refl _) (by omega)), nm_def, i_s]
    · rcases l.2.2 with l | l
      · omega
      · have : mB p < k := l.2.1
        unfold mB at this
        omega
    · rcases hL with ⟨_, hL⟩ | ⟨f, hf, _, hL⟩
      · omega
      · rw [if_pos hf] at hL
        omega
  | succ m ih =>
    intro g k L P cd lf rt st hk hg S hL
    obtain ⟨g', rfl⟩ : ∃ g', g = g' + 1 := ⟨g - 1, by omega⟩
    have hA : mA (10 * s + k) = s := by unfold mA; omega
    have hB : mB (10 * s + k) = k := by unfold mB; omega
    rw [show F_X5_list_25 N 4 (nI c) (nI n) f4 crews k7 (g' + 1) (nI L) cd lf rt st (nI s) (row s) (nI k) = B_X5_list_25 N 4 (nI c) (nI n) f4 crews k7 (F_X5_list_25 N 4 (nI c) (nI n) f4 crews k7 g') (nI L) cd lf rt st (nI s) (row s) (nI k) from rfl]
    unfold B_X5_list_25
    rw [if_neg (i_nle (by omega) (by omega))]
    have skip : ¬ legM n c be row (10 * s + k) → StL n c be row L P cd lf rt st (10 * s + (k + 1)) := fun nl => StL_skip S (by omega) (fun p h1 h2 l => by
      have e : p = 10 * s + k := by omega
      subst e
      exact nl l)
    rcases hL with ⟨e1, hL⟩ | ⟨f, hf, e1, hL⟩
    · rw [if_pos e1, nm_def, i_s]
      exact ih g' (k + 1) L P cd lf rt st (by omega) (by omega) (skip (fun l => l.2.1 (by rw [hA]; exact e1))) (Or.inl ⟨e1, hL⟩)
    · rw [if_neg (by rw [e1]; exact i_m1 (by omega))]
      by_cases z1 : row s = nI k
      · have efk : f = k := i_inj (by omega) (by omega) (e1.symm.trans z1)
        rw [if_pos z1, nm_def, i_s]
        refine ih g' (k + 1) L P cd lf rt st (by omega) (by omega) (skip (fun l => ?_)) (Or.inr ⟨f, hf, e1, ?_⟩)
        · rcases l.2.2 with l | l
          · omega
          · exact l.2.2.1 (by rw [hA, hB, z1])
        · rw [if_neg (by omega)] at hL
          rw [if_pos (by omega)]
          omega
      · have efk : f ≠ k := fun e => z1 (by rw [e1, e])
        have hbk := hb k (by omega)
        have hL2 : L + 1 + (if f < k + 1 then 1 else 0) ≤ 3 * s + (k + 1) := by
          by_cases w : f < k
          · rw [if_pos w] at hL
            rw [if_pos (by omega)]
            omega
          · rw [if_neg w] at hL
            rw [if_neg (by omega)]
            omega
        rw [if_neg z1, bnd_of (v_X8_isFull h8 hc (by omega) hbk.1 hbk.2)]
        by_cases z2 : be k ≤ cnt (innM n row k) 8
        · rw [b2i_1 z2, if_neg (show ¬ (1 : Int32) = 0 by decide), nm_def, i_s]
          refine ih g' (k + 1) L P cd lf rt st (by omega) (by omega) (skip (fun l => ?_)) (Or.inr ⟨f, hf, e1, by omega⟩)
          rcases l.2.2 with l | l
          · omega
          · have := l.2.2.2
            rw [hB] at this
            omega
        · have l : legM n c be row (10 * s + k) := ⟨by rw [hA]; exact hs, by rw [hA, e1]; exact i_m1 (by omega), Or.inr ⟨by omega, by rw [hB]; omega, by rw [hA, hB]; exact fun e => z1 e.symm, by rw [hB]; omega⟩⟩
          have hL3 : L < 52 := by
            by_cases w : f < k
            · rw [if_pos w] at hL; omega
            · rw [if_neg w] at hL; omega
          rw [b2i_0 z2, if_pos rfl, bnd_of (v_X5_append hL3 cd lf rt st _ _ _ _), nm_def, i_s]
          exact ih g' (k + 1) (L + 1) _ _ _ _ _ (by omega) (by omega) (StL_app S l (i_put s k) ⟨f, k, by omega, by omega, efk, e1, rfl, by rw [hA]; exact e1, Or.inl ⟨by omega, hB.symm, fun t => by rw [hA]; exact bt_bit (by omega) t⟩⟩) (Or.inr ⟨f, hf, e1, hL2⟩)
/-! exchanges of one sleeper with those behind it -/
theorem v_list_102 (hN : 70000 ≤ N) (h8 : n ≤ 8) (hc4 : c ≤ 4) (R : RwOk n c be row) (hc : Cr n row crews) (k89 : Int32 → (Nat → Int32) → (Nat → Int32) → (Nat → Int32) → (Nat → Int32) → Int32 → Option (Int32 × (Nat → Int32) × (Nat → Int32) × (Nat → Int32) × (Nat → Int32))) {a : Nat} (ha : a < n) :
    ∀ (m g b : Nat) (L : Nat) (P : Nat → Nat) (cd lf rt st : Nat → Int32), b + m = n → a < b → m < g → StL n c be row L P cd lf rt st (100 + 10 * a + b) → L + (8 - b) + tri (7 - a) ≤ 52 →
      ∃ L' P' cd' lf' rt' st', F_X5_list_102 N 4 (nI c) (nI n) f4 crews k89 g (nI L) cd lf rt st (nI a) (nI b) = k89 (nI L') cd' lf' rt' st' (nI (a + 1)) ∧ StL n c be row L' P' cd' lf' rt' st' (100 + 10 * (a + 1)) ∧ L' + tri (7 - a) ≤ 52 := by
  have ho : CaOk n row := Rw_ca hc4 R
  intro m
  induction m with
  | zero =>
    intro g b L P cd lf rt st hk hab hg S hL
    obtain ⟨g', rfl⟩ : ∃ g', g = g' + 1 := ⟨g - 1, by omega⟩
    have e : b = n := by omega
    subst e
    refine ⟨L, P, cd, lf, rt, st, ?_, StL_skip S (by omega) (fun p h1 h2 l => ?_), by omega⟩
    · show B_X5_list_102 N 4 (nI c) (nI b) f4 crews k89 (F_X5_list_102 N 4 (nI c) (nI b) f4 crews k89 g') (nI L) cd lf rt st (nI a) (nI b) = _
      unfold B_X5_list_102
      rw [if_pos (i_le (Nat.le_refl _) (by omega)), nm_def, i_s]
    · rcases l.2.2 with l | l
      · have : mB p < b := l.2.2.1
        unfold mB at this
        omega
      · omega
  | succ m ih =>
    intro g b L P cd lf rt st hk hab hg S hL
    obtain ⟨g', rfl⟩ : ∃ g', g = g' + 1 := ⟨g - 1, by omega⟩
    have hA : mA (100 + 10 * a + b) = a := by unfold mA; omega
    have hB : mB (100 + 10 * a + b) = b := by unfold mB; omega
    rw [show F_X5_list_102 N 4 (nI c) (nI n) f4 crews k89 (g' + 1) (nI L) cd lf rt st (nI a) (nI b) = B_X5_list_102 N 4 (nI c) (nI n) f4 crews k89 (F_X5_list_102 N 4 (nI c) (nI n) f4 crews k89 g') (nI L) cd lf rt st (nI a) (nI b) from rfl]
    unfold B_X5_list_102
    rw [if_neg (i_nle (by omega) (by omega)), bnd_of (v_X8_carOf hN h8 hc ho ha), bnd_of (v_X8_carOf hN h8 hc ho (by omega))]
    have skip : ¬ legM n c be row (100 + 10 * a + b) → StL n c be row L P cd lf rt st (100 + 10 * a + (b + 1)) := fun nl => StL_skip S (by omega) (fun p h1 h2 l => by
      have e : p = 100 + 10 * a + b := by omega
      subst e
      exact nl l)
    by_cases z1 : row a = -1
    · rw [if_pos z1, nm_def, i_s]
      exact ih g' (b + 1) L P cd lf rt st (by omega) (by omega) (by omega) (skip (fun l => l.2.1 (by rw [hA]; exact z1))) (by omega)
    rw [if_neg z1]
    by_cases z2 : row b = -1
    · rw [if_pos z2, nm_def, i_s]
      refine ih g' (b + 1) L P cd lf rt st (by omega) (by omega) (by omega) (skip (fun l => ?_)) (by omega)
      rcases l.2.2 with l | l
      · exact l.2.2.2.1 (by rw [hB]; exact z2)
      · omega
    rw [if_neg z2]
    by_cases z3 : row a = row b
    · rw [if_pos z3, nm_def, i_s]
      refine ih g' (b + 1) L P cd lf rt st (by omega) (by omega) (by omega) (skip (fun l => ?_)) (by omega)
      rcases l.2.2 with l | l
      · exact l.2.2.2.2 (by rw [hA, hB]; exact z3.symm)
      · omega
    rw [if_neg z3, nm_def]
    obtain ⟨x, hx, ex⟩ : ∃ x, x < 4 ∧ row a = nI x := (ho a ha).resolve_left z1
    obtain ⟨y, hy, ey⟩ : ∃ y, y < 4 ∧ row b = nI y := (ho b (by omega)).resolve_left z2
    have l : legM n c be row (100 + 10 * a + b) := ⟨by rw [hA]; exact ha, by rw [hA]; exact z1, Or.inl ⟨by omega, by rw [hA, hB]; exact hab, by rw [hB]; omega, by rw [hB]; exact z2, by rw [hA, hB]; exact fun e => z3 e.symm⟩⟩
    rw [bnd_of (v_X5_append (by omega) cd lf rt st _ _ _ _), nm_def, i_s]
    exact ih g' (b + 1) (L + 1) _ _ _ _ _ (by omega) (by omega) (by omega) (StL_app S l (i_exc a b) ⟨x, y, hx, hy, fun e => z3 (by rw [ex, ey, e]), ex, ey, by rw [hA]; exact ex, Or.inr ⟨by omega, by rw [hB]; exact ey, fun t => by rw [hA, hB, b_or, bt_bit (by omega), bt_bit (by omega)]⟩⟩) (by omega)
theorem v_list_89 (hN : 70000 ≤ N) (h8 : n ≤ 8) (hc4 : c ≤ 4) (R : RwOk n c be row) (hc : Cr n row crews) :
    ∀ (m g a : Nat) (L : Nat) (P : Nat → Nat) (cd lf rt st : Nat → Int32), a + m = n → m < g → StL n c be row L P cd lf rt st (100 + 10 * a) → L + tri (8 - a) ≤ 52 →
      ∃ L' P' cd' lf' rt' st', F_X5_list_89 N 4 (nI c) (nI n) f4 crews g (nI L) cd lf rt st (nI a) = some (nI L', cd', lf', rt', st') ∧ StL n c be row L' P' cd' lf' rt' st' 200 ∧ L' ≤ 52 := by
  intro m
  induction m with
  | zero =>
    intro g a L P cd lf rt st hk hg S hL
    obtain ⟨g', rfl⟩ : ∃ g', g = g' + 1 := ⟨g - 1, by omega⟩
    have e : a = n := by omega
    subst e
    refine ⟨L, P, cd, lf, rt, st, ?_, StL_skip S (by omega) (fun p h1 h2 l => ?_), by omega⟩
    · show B_X5_list_89 N 4 (nI c) (nI a) f4 crews (F_X5_list_89 N 4 (nI c) (nI a) f4 crews g') (nI L) cd lf rt st (nI a) = _
      unfold B_X5_list_89
      rw [if_pos (i_le (Nat.le_refl _) (by omega))]
    · have : mA p < a := l.1
      unfold mA at this
      omega
  | succ m ih =>
    intro g a L P cd lf rt st hk hg S hL
    obtain ⟨g', rfl⟩ : ∃ g', g = g' + 1 := ⟨g - 1, by omega⟩
    rw [show F_X5_list_89 N 4 (nI c) (nI n) f4 crews (g' + 1) (nI L) cd lf rt st (nI a) = B_X5_list_89 N 4 (nI c) (nI n) f4 crews (F_X5_list_89 N 4 (nI c) (nI n) f4 crews g') (nI L) cd lf rt st (nI a) from rfl]
    unfold B_X5_list_89
    rw [if_neg (i_nle (by omega) (by omega)), nm_def, i_s]
    have ht : tri (8 - a) = tri (7 - a) + (7 - a) := by rw [show 8 - a = (7 - a) + 1 by omega]; rfl
    obtain ⟨L', P', cd', lf', rt', st', e1, S1, hL1⟩ := v_list_102 (f4 := f4) hN h8 hc4 R hc (F_X5_list_89 N 4 (nI c) (nI n) f4 crews g') (a := a) (by omega) m N (a + 1) L P cd lf rt st (by omega) (by omega) (by omega) (StL_skip S (by omega) (fun p h1 h2 l => by
      rcases l.2.2 with l | l
      · have : mA p < mB p := l.2.1
        unfold mA mB at this
        omega
      · omega)) (by omega)
    rw [e1]
    exact ih g' (a + 1) L' P' cd' lf' rt' st' (by omega) (by omega) S1 (by rw [show 8 - (a + 1) = 7 - a by omega]; exact hL1)
theorem v_X5_list (hN : 70000 ≤ N) (h8 : n ≤ 8) (hc4 : c ≤ 4) (hb : ∀ k, k < c → f4 k = nI (be k) ∧ be k ≤ 8) (R : RwOk n c be row) (hc : Cr n row crews) (x0 : Int32) (cd0 lf0 rt0 st0 : Nat → Int32) :
    ∃ L P cd lf rt st, F_X5_list N 4 x0 cd0 lf0 rt0 st0 (nI c) (nI n) f4 crews = some (nI L, cd, lf, rt, st) ∧ StL n c be row L P cd lf rt st 200 ∧ L ≤ 52 := by
  have ho : CaOk n row := Rw_ca hc4 R
  unfold F_X5_list
  have key : ∀ (m g s : Nat) (L : Nat) (P : Nat → Nat) (cd lf rt st : Nat → Int32), s + m = n → m < g → StL n c be row L P cd lf rt st (10 * s) → L ≤ 3 * s →
      ∃ L' P' cd' lf' rt' st', F_X5_list_7 N 4 (nI c) (nI n) f4 crews g (nI L) cd lf rt st (nI s) = some (nI L', cd', lf', rt', st') ∧ StL n c be row L' P' cd' lf' rt' st' 200 ∧ L' ≤ 52 := by
    intro m
    induction m with
    | zero =>
      intro g s L P cd lf rt st hk hg S hL
      obtain ⟨g', rfl⟩ : ∃ g', g = g' + 1 := ⟨g - 1, by omega⟩
      rw [show F_X5_list_7 N 4 (nI c) (nI n) f4 crews (g' + 1) (nI L) cd lf rt st (nI s) = B_X5_list_7 N 4 (nI c) (nI n) f4 crews (F_X5_list_7 N 4 (nI c) (nI n) f4 crews g') (nI L) cd lf rt st (nI s) from rfl]
      unfold B_X5_list_7
      rw [if_pos (i_le (by omega) (by omega))]
      exact v_list_89 hN h8 hc4 R hc n N 0 L P cd lf rt st (by omega) (by omega) (StL_skip S (by omega) (fun p h1 h2 l => by
        have : mA p < n := l.1
        unfold mA at this
        omega)) (by
        have : tri (8 - 0) = 28 := rfl
        omega)
    | succ m ih =>
      intro g s L P cd lf rt st hk hg S hL
      obtain ⟨g', rfl⟩ : ∃ g', g = g' + 1 := ⟨g - 1, by omega⟩
      rw [show F_X5_list_7 N 4 (nI c) (nI n) f4 crews (g' + 1) (nI L) cd lf rt st (nI s) = B_X5_list_7 N 4 (nI c) (nI n) f4 crews (F_X5_list_7 N 4 (nI c) (nI n) f4 crews g') (nI L) cd lf rt st (nI s) from rfl]
      unfold B_X5_list_7
      rw [if_neg (i_nle (by omega) (by omega)), bnd_of (v_X8_carOf hN h8 hc ho (by omega))]
      obtain ⟨L', P', cd', lf', rt', st', e1, S1, hL1⟩ := v_list_25 (N := N) h8 hc4 hb R hc (F_X5_list_7 N 4 (nI c) (nI n) f4 crews g') (s := s) (by omega) c N 0 L P cd lf rt st (by omega) (by omega) S (by
        rcases R.1 s (by omega) with w | ⟨f, hf, w⟩
        · exact Or.inl ⟨w, hL⟩
        · exact Or.inr ⟨f, hf, w, by rw [if_neg (by omega)]; omega⟩)
      have e1 : F_X5_list_25 N 4 (nI c) (nI n) f4 crews (F_X5_list_7 N 4 (nI c) (nI n) f4 crews g') N (nI L) cd lf rt st (nI s) (row s) 0 = _ := e1
      rw [e1]
      exact ih g' (s + 1) L' P' cd' lf' rt' st' (by omega) (by omega) S1 hL1
  exact key n N 0 0 (fun _ => 0) cd0 lf0 rt0 st0 (by omega) (by omega) (StL_0 _ _ _ _) (by omega)
end Steps

/-! a row of digits as a number, the first one the greatest -/
def cod (c : Nat) (v : Nat → Nat) : Nat → Nat
  | 0 => 0
  | n + 1 => cod c v n * c + v n
theorem cod_congr {c : Nat} {v w : Nat → Nat} : ∀ {n : Nat}, (∀ i, i < n → v i = w i) → cod c v n = cod c w n
  | 0, _ => rfl
  | n + 1, h => by rw [cod, cod, cod_congr (fun i hi => h i (by omega)), h n (by omega)]
theorem cod_lt {c : Nat} {v : Nat → Nat} : ∀ {n : Nat}, (∀ i, i < n → v i < c) → cod c v n < c ^ n
  | 0, _ => by
    rw [Nat.pow_zero]
    exact Nat.one_pos
  | n + 1, h => by
    have ih := cod_lt (c := c) (v := v) (n := n) (fun i hi => h i (by omega))
    have hv := h n (by omega)
    have e : (cod c v n + 1) * c = cod c v n * c + c := Nat.succ_mul _ _
    have l : (cod c v n + 1) * c ≤ c ^ n * c := Nat.mul_le_mul_right c ih
    rw [cod, Nat.pow_succ]
    omega
theorem cod_step {c a b x y : Nat} (hx : x < c) (hy : y < c) (h : a * c + x ≤ b * c + y) : a < b ∨ (a = b ∧ x ≤ y) := by
  rcases Nat.lt_or_ge a b with q | q
  · exact Or.inl q
  · rcases Nat.lt_or_ge b a with w | w
    · have e : (b + 1) * c = b * c + c := Nat.succ_mul _ _
      have l : (b + 1) * c ≤ a * c := Nat.mul_le_mul_right c w
      omega
    · have e : a = b := by omega
      subst e
      exact Or.inr ⟨rfl, by omega⟩
theorem cod_cmp {c : Nat} {v w : Nat → Nat} : ∀ {n : Nat}, (∀ i, i < n → v i < c) → (∀ i, i < n → w i < c) → cod c v n ≤ cod c w n → (∀ i, i < n → v i = w i) ∨ lexL n v w
  | 0, _, _, _ => Or.inl (fun i hi => absurd hi (by omega))
  | n + 1, hv, hw, h => by
    have up : lexL n v w → lexL (n + 1) v w := fun ⟨s, h1, h2, h3⟩ => ⟨s, by omega, h2, h3⟩
    rw [cod, cod] at h
    rcases cod_step (hv n (by omega)) (hw n (by omega)) h with q | ⟨q, z⟩
    · rcases cod_cmp (fun i hi => hv i (by omega)) (fun i hi => hw i (by omega)) (Nat.le_of_lt q) with e | e
      · rw [cod_congr e] at q
        omega
      · exact Or.inr (up e)
    · rcases cod_cmp (fun i hi => hv i (by omega)) (fun i hi => hw i (by omega)) (Nat.le_of_eq q) with e | e
      · rcases Nat.lt_or_ge (v n) (w n) with l | l
        · exact Or.inr ⟨n, by omega, l, e⟩
        · refine Or.inl (fun i hi => ?_)
          by_cases e2 : i = n
          · subst e2; omega
          · exact e i (by omega)
      · exact Or.inr (up e)
theorem cod_inj {c : Nat} {v w : Nat → Nat} : ∀ {n : Nat}, (∀ i, i < n → v i < c) → (∀ i, i < n → w i < c) → cod c v n = cod c w n → ∀ i, i < n → v i = w i
  | 0, _, _, _, i, hi => absurd hi (by omega)
  | n + 1, hv, hw, h, i, hi => by
    rw [cod, cod] at h
    have h1 := cod_step (hv n (by omega)) (hw n (by omega)) (Nat.le_of_eq h)
    have h2 := cod_step (hw n (by omega)) (hv n (by omega)) (Nat.le_of_eq h.symm)
    by_cases e2 : i = n
    · subst e2; omega
    · exact cod_inj (n := n) (fun i hi => hv i (by omega)) (fun i hi => hw i (by omega)) (by omega) i (by omega)
theorem dig_ex {c : Nat} : ∀ (n j : Nat), j < c ^ n → ∃ f : Nat → Nat, (∀ s, s < n → f s < c) ∧ cod c f n = j
  | 0, j, h => ⟨fun _ => 0, fun s hs => absurd hs (by omega), by
    rw [Nat.pow_zero] at h
    show 0 = j
    omega⟩
  | n + 1, j, h => by
    have hc : 0 < c := by
      rcases Nat.eq_zero_or_pos c with e | e
      · subst e
        rw [Nat.pow_succ, Nat.mul_zero] at h
        omega
      · exact e
    have hj : j / c < c ^ n := by
      rw [Nat.pow_succ] at h
      exact Nat.div_lt_of_lt_mul (by rw [Nat.mul_comm]; exact h)
    obtain ⟨f, h1, h2⟩ := dig_ex n (j / c) hj
    have hm := Nat.mod_lt j hc
    refine ⟨fun s => if s = n then j % c else f s, fun s hs => ?_, ?_⟩
    · by_cases e : s = n
      · show (if s = n then j % c else f s) < c
        rw [if_pos e]; exact hm
      · show (if s = n then j % c else f s) < c
        rw [if_neg e]; exact h1 s (by omega)
    · rw [cod, cod_congr (w := f) (fun i hi => if_neg (by omega)), h2]
      show j / c * c + (if n = n then j % c else f n) = j
      rw [if_pos rfl, Nat.mul_comm]
      exact Nat.div_add_mod j c
/-! a scan over all rows, in order: the first of the lightest -/
def okV (c U : Nat) (v : Nat → Nat) : Prop := ∀ i, i < U → v i < c
def Sc (c U : Nat) (Lay : (Nat → Nat) → Prop) (wt : (Nat → Nat) → Nat) (few : Int32) (Row : (Nat → Nat) → Prop) (j : Nat) : Prop :=
  (few = -1 ∧ ∀ w, okV c U w → cod c w U < j → ¬ Lay w) ∨ ∃ v, okV c U v ∧ cod c v U < j ∧ Lay v ∧ few = nI (wt v) ∧ Row v ∧ ∀ w, okV c U w → Lay w → cod c w U < j → wt v < wt w ∨ (wt v = wt w ∧ cod c v U ≤ cod c w U)
section Scan
variable {c U : Nat} {Lay : (Nat → Nat) → Prop} {wt : (Nat → Nat) → Nat}
theorem sc_0 (Row : (Nat → Nat) → Prop) : Sc c U Lay wt (-1) Row 0 := Or.inl ⟨rfl, fun w _ h => absurd h (by omega)⟩
theorem sc_step (hL : ∀ v w, (∀ i, i < U → v i = w i) → Lay v → Lay w) (hw : ∀ v w, (∀ i, i < U → v i = w i) → wt v = wt w) {few : Int32} {Row : (Nat → Nat) → Prop} {j : Nat} (h : Sc c U Lay wt few Row j) {v : Nat → Nat} (hv : okV c U v) (hj : cod c v U = j) :
    (¬ Lay v ∧ Sc c U Lay wt few Row (j + 1)) ∨ (Lay v ∧ few = -1 ∧ ∀ Row' : (Nat → Nat) → Prop, Row' v → Sc c U Lay wt (nI (wt v)) Row' (j + 1)) ∨ (Lay v ∧ ∃ v0, few = nI (wt v0) ∧ ((wt v0 ≤ wt v ∧ Sc c U Lay wt few Row (j + 1)) ∨ (wt v < wt v0 ∧ ∀ Row' : (Nat → Nat) → Prop, Row' v → Sc c U Lay wt (nI (wt v)) Row' (j + 1)))) := by
  have same : ∀ w, okV c U w → cod c w U = j → ∀ i, i < U → w i = v i := fun w hw e => cod_inj hw hv (e.trans hj.symm)
  have split : ∀ w, cod c w U < j + 1 → cod c w U < j ∨ cod c w U = j := fun w h => by omega
  by_cases q : Lay v
  · refine Or.inr ?_
    rcases h with ⟨h1, h2⟩ | ⟨v0, a1, a2, a3, a4, a5, a6⟩
    · refine Or.inl ⟨q, h1, fun Row' hr => Or.inr ⟨v, hv, by omega, q, rfl, hr, fun w ow lw cw => ?_⟩⟩
      rcases split w cw with z | z
      · exact absurd lw (h2 w ow z)
      · exact Or.inr ⟨(hw w v (same w ow z)).symm, by omega⟩
    · refine Or.inr ⟨q, v0, a4, ?_⟩
      rcases Nat.lt_or_ge (wt v) (wt v0) with l | l
      · refine Or.inr ⟨l, fun Row' hr => Or.inr ⟨v, hv, by omega, q, rfl, hr, fun w ow lw cw => ?_⟩⟩
        rcases split w cw with z | z
        · have := a6 w ow lw z
          omega
        · exact Or.inr ⟨(hw w v (same w ow z)).symm, by omega⟩
      · refine Or.inl ⟨l, Or.inr ⟨v0, a1, by omega, a3, a4, a5, fun w ow lw cw => ?_⟩⟩
        rcases split w cw with z | z
        · exact a6 w ow lw z
        · have e := hw w v (same w ow z)
          omega
  · refine Or.inl ⟨q, ?_⟩
    have no : ∀ w, okV c U w → cod c w U = j → ¬ Lay w := fun w ow e l => q (hL w v (same w ow e) l)
    rcases h with ⟨h1, h2⟩ | ⟨v0, a1, a2, a3, a4, a5, a6⟩
    · exact Or.inl ⟨h1, fun w ow cw => by
        rcases split w cw with z | z
        · exact h2 w ow z
        · exact no w ow z⟩
    · refine Or.inr ⟨v0, a1, by omega, a3, a4, a5, fun w ow lw cw => ?_⟩
      rcases split w cw with z | z
      · exact a6 w ow lw z
      · exact absurd lw (no w ow z)
end Scan
/-! the best row, whatever is kept of it -/
def BestR (n c : Nat) (tu : Int32) (pi lo de fr to be : Nat → Nat) (ma : Nat → Int32) (few : Int32) (Row : (Nat → Nat) → Prop) : Prop :=
  (few = -1 ∧ ∀ f, ¬ LayOk n c be ma f) ∨ ∃ f, LayOk n c be ma f ∧ few = nI (awkN n tu pi lo de fr to f) ∧ Row f ∧ ∀ g, LayOk n c be ma g → awkN n tu pi lo de fr to f < awkN n tu pi lo de fr to g ∨ (awkN n tu pi lo de fr to f = awkN n tu pi lo de fr to g ∧ ((∀ s, s < n → f s = g s) ∨ lexL n f g))
theorem lexL_no {n : Nat} {f g : Nat → Nat} (h1 : lexL n f g) (h2 : lexL n g f) : False := by
  obtain ⟨s, a1, a2, a3⟩ := h1
  obtain ⟨t, b1, b2, b3⟩ := h2
  rcases Nat.lt_trichotomy s t with q | q | q
  · have := b3 s q; omega
  · subst q; omega
  · have := a3 t q; omega
theorem awkN_le {n : Nat} {tu : Int32} {pi lo de fr to : Nat → Nat} (f : Nat → Nat) : awkN n tu pi lo de fr to f ≤ 8 := cnt_le 8
theorem best_one {n c : Nat} {tu : Int32} {pi lo de fr to be : Nat → Nat} {ma : Nat → Int32} {few1 few2 : Int32} {R1 R2 : (Nat → Nat) → Prop} (h1 : BestR n c tu pi lo de fr to be ma few1 R1) (h2 : BestR n c tu pi lo de fr to be ma few2 R2) :
    few1 = few2 ∧ ((few1 = -1 ∧ few2 = -1) ∨ ∃ f g, LayOk n c be ma f ∧ few1 = nI (awkN n tu pi lo de fr to f) ∧ R1 f ∧ R2 g ∧ ∀ s, s < n → f s = g s) := by
  rcases h1 with ⟨a1, a2⟩ | ⟨f, a1, a2, a3, a4⟩
  · rcases h2 with ⟨b1, b2⟩ | ⟨g, b1, b2, b3, b4⟩
    · exact ⟨a1.trans b1.symm, Or.inl ⟨a1, b1⟩⟩
    · exact absurd b1 (a2 g)
  · rcases h2 with ⟨b1, b2⟩ | ⟨g, b1, b2, b3, b4⟩
    · exact absurd a1 (b2 f)
    · have x := a4 g b1
      have y := b4 f a1
      have e : awkN n tu pi lo de fr to f = awkN n tu pi lo de fr to g := by omega
      refine ⟨by rw [a2, b2, e], Or.inr ⟨f, g, a1, a2, a3, b3, ?_⟩⟩
      rcases x with x | ⟨_, x | x⟩
      · omega
      · exact x
      · rcases y with y | ⟨_, y | y⟩
        · omega
        · exact fun s hs => (y s hs).symm
        · exact (lexL_no x y).elim
theorem stG_congr4 {jar : Nat → Nat → Bool} {lo de : Nat → Int32} {live inn inn' : Nat → Nat → Bool} (h : ∀ k, k < 4 → ∀ s, inn k s = inn' k s) (aw : Nat → Bool) (x : Nat) : stG jar lo de live inn aw x = stG jar lo de live inn' aw x := funext fun s => by
  rw [stG, stG]
  congr 1
  refine anyN_congr (fun k hk => ?_)
  rw [h k hk s, zE_congr (q' := fun t => inn' k t && (!aw t && live x t)) (fun t _ => by rw [h k hk t])]
theorem moG_congr4 {jar : Nat → Nat → Bool} {lo de : Nat → Int32} {live inn inn' : Nat → Nat → Bool} (h : ∀ k, k < 4 → ∀ s, inn k s = inn' k s) : ∀ (m : Nat) (aw : Nat → Bool) (x : Nat), moG jar lo de live inn m aw x = moG jar lo de live inn' m aw x
  | 0, _, _ => rfl
  | m + 1, aw, x => by rw [moG, moG, stG_congr4 h, moG_congr4 h m]
theorem awkN_congr {n : Nat} {tu : Int32} {pi lo de fr to : Nat → Nat} {f g : Nat → Nat} (h : ∀ s, s < n → f s = g s) : awkN n tu pi lo de fr to f = awkN n tu pi lo de fr to g := by
  unfold awkN
  have e : (fun k s => decide (s < n ∧ f s = k)) = (fun k s => decide (s < n ∧ g s = k)) := funext fun k => funext fun s => by
    by_cases hs : s < n
    · rw [h s hs]
    · rw [decide_eq_false (fun w => hs w.1), decide_eq_false (fun w => hs w.1)]
  rw [e]
theorem LayOk_congr {n c : Nat} {be : Nat → Nat} {ma : Nat → Int32} {f g : Nat → Nat} (h : ∀ s, s < n → f s = g s) (l : LayOk n c be ma f) : LayOk n c be ma g := by
  obtain ⟨l1, l2, l3⟩ := l
  refine ⟨fun s hs => by rw [← h s hs]; exact l1 s hs, fun k hk => ?_, fun s hs m hm e => by rw [← h s hs, ← h m hm]; exact l3 s hs m hm e⟩
  rw [cnt_congr (q := fun s => decide (s < n ∧ f s = k)) (fun s _ => by
    by_cases hs : s < n
    · show decide (s < n ∧ g s = k) = decide (s < n ∧ f s = k)
      rw [h s hs]
    · show decide (s < n ∧ g s = k) = decide (s < n ∧ f s = k)
      rw [decide_eq_false (fun w => hs w.1), decide_eq_false (fun w => hs w.1)])]
  exact l2 k hk
/-! a row in its numbers: who wakes -/
theorem row_awk {n c : Nat} {tu : Int32} {pi lo de fr to : Nat → Nat} {of : Nat → Int32} {N : Nat} (hN : 70000 ≤ N) (M : MOk n pi lo de fr to of) (hc : c ≤ 4) {f : Nat → Nat} (hf : okV c n f) {row : Nat → Int32} (hr : ∀ s, s < n → row s = nI (f s)) (h8 : row 8 = 0) (h9 : row 9 = 0) :
    ∃ r t, F_X9_morning N (nI n) tu of row = some (r, t) ∧ F_X9_bits N r = some (nI (awkN n tu pi lo de fr to f)) := by
  obtain ⟨c', e1, e2⟩ := v_X9_morning hN M (tu := tu) (c := row) (fun s hs => Or.inr ⟨f s, by have := hf s hs; omega, hr s hs⟩) (h := 0) (by omega) h9
  refine ⟨_, _, e1, ?_⟩
  rw [v_X9_bits hN]
  unfold awkN
  rw [cnt_congr (fun s _ => e2 s)]
  rw [moG_congr4 (inn := innM n row) (inn' := fun k s => decide (s < n ∧ f s = k)) (fun k hk s => by
    unfold innM
    by_cases hs : s < n
    · rw [hr s hs]
      by_cases e : f s = k
      · rw [e, decide_eq_true (p := s < n ∧ nI k = nI k) ⟨hs, rfl⟩, decide_eq_true (p := s < n ∧ k = k) ⟨hs, rfl⟩]
      · rw [decide_eq_false (p := s < n ∧ f s = k) (fun w => e w.2), decide_eq_false (p := s < n ∧ nI (f s) = nI k) (fun w => i_ne (by have := hf s hs; omega) (by omega) e w.2)]
    · rw [decide_eq_false (fun w => hs w.1), decide_eq_false (fun w => hs w.1)])]
  rw [show bt (row 8) = fun _ => false from funext (fun s => by rw [h8, b_0])]

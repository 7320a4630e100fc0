/-! a move by its number: the sleeper, and the car or the other one -/
def mA (p : Nat) : Nat := p % 100 / 10
def mB (p : Nat) : Nat := p % 10
def legM (n c : Nat) (be : Nat → Nat) (row : Nat → Int32) (p : Nat) : Prop := mA p < n ∧ row (mA p) ≠ -1 ∧ ((100 ≤ p ∧ mA p < mB p ∧ mB p < n ∧ row (mB p) ≠ -1 ∧ row (mB p) ≠ row (mA p)) ∨ (p < 100 ∧ mB p < c ∧ nI (mB p) ≠ row (mA p) ∧ cnt (innM n row (mB p)) 8 < be (mB p)))
def mvR (row : Nat → Int32) (p : Nat) : Nat → Int32 := if 100 ≤ p then upd (upd row (mA p) (row (mB p))) (mB p) (row (mA p)) else upd row (mA p) (nI (mB p))
def RwOk (n c : Nat) (be : Nat → Nat) (row : Nat → Int32) : Prop := (∀ s, s < n → row s = -1 ∨ ∃ k, k < c ∧ row s = nI k) ∧ ∀ k, k < c → cnt (innM n row k) 8 ≤ be k
section Mv
variable {n c : Nat} {be : Nat → Nat}
theorem mv_out {row : Nat → Int32} {p j : Nat} (l : legM n c be row p) (hj : n ≤ j) : mvR row p j = row j := by
  unfold mvR
  rcases l with ⟨l1, l2, ⟨l3, l4, l5, _⟩ | ⟨l3, _⟩⟩
  · rw [if_pos l3, pk_un (by omega), pk_un (by omega)]
  · rw [if_neg (by omega), pk_un (by omega)]
theorem mv_congr {r r' : Nat → Int32} {p : Nat} (m : Nat) (h : ∀ s, s < m → r s = r' s) (ha : mA p < m) (hb : 100 ≤ p → mB p < m) : ∀ s, s < m → mvR r p s = mvR r' p s := fun s hs => by
  unfold mvR
  by_cases q : 100 ≤ p
  · rw [if_pos q, if_pos q]
    by_cases e : s = mB p
    · rw [e, pk_us, pk_us, h _ ha]
    · rw [pk_un e, pk_un e]
      by_cases e2 : s = mA p
      · rw [e2, pk_us, pk_us, h _ (hb q)]
      · rw [pk_un e2, pk_un e2, h s hs]
  · rw [if_neg q, if_neg q]
    by_cases e2 : s = mA p
    · rw [e2, pk_us, pk_us]
    · rw [pk_un e2, pk_un e2, h s hs]
theorem leg_congr {r r' : Nat → Int32} {p : Nat} (h : ∀ s, s < n → r s = r' s) (l : legM n c be r p) : legM n c be r' p := by
  have ei : innM n r = innM n r' := innM_congr (fun s hs => h s hs)
  rcases l with ⟨l1, l2, l3⟩
  refine ⟨l1, by rw [← h _ l1]; exact l2, ?_⟩
  rcases l3 with ⟨a1, a2, a3, a4, a5⟩ | ⟨a1, a2, a3, a4⟩
  · exact Or.inl ⟨a1, a2, a3, by rw [← h _ a3]; exact a4, by rw [← h _ a3, ← h _ l1]; exact a5⟩
  · exact Or.inr ⟨a1, a2, by rw [← h _ l1]; exact a3, by rw [← ei]; exact a4⟩
theorem Rw_congr {r r' : Nat → Int32} (h : ∀ s, s < n → r s = r' s) (l : RwOk n c be r) : RwOk n c be r' := by
  have ei : innM n r = innM n r' := innM_congr (fun s hs => h s hs)
  exact ⟨fun s hs => by rw [← h s hs]; exact l.1 s hs, fun k hk => by rw [← ei]; exact l.2 k hk⟩
theorem inn_upd {row : Nat → Int32} {s : Nat} (hs : s < n) (h8 : n ≤ 8) (v : Int32) (k : Nat) : cnt (innM n (upd row s v) k) 8 + (if row s = nI k then 1 else 0) = cnt (innM n row k) 8 + (if v = nI k then 1 else 0) := by
  have hu := cnt_upd (p := innM n row k) (p' := innM n (upd row s v) k) (s := s) (fun t ht => by unfold innM; rw [pk_un ht]) (n := 8) (by omega)
  have e1 : (if innM n row k s = true then 1 else 0) = if row s = nI k then 1 else 0 := by
    by_cases e : row s = nI k
    · rw [if_pos e, if_pos (show innM n row k s = true from decide_eq_true ⟨hs, e⟩)]
    · rw [if_neg e, if_neg (by rw [innM, decide_eq_false (fun w => e w.2)]; decide)]
  have e2 : (if innM n (upd row s v) k s = true then 1 else 0) = if v = nI k then 1 else 0 := by
    by_cases e : v = nI k
    · rw [if_pos e, if_pos (show innM n (upd row s v) k s = true from decide_eq_true ⟨hs, by rw [pk_us]; exact e⟩)]
    · rw [if_neg e, if_neg (by rw [innM, decide_eq_false (fun w => by rw [pk_us] at w; exact e w.2)]; decide)]
  rw [e1, e2] at hu
  exact hu
theorem mv_ok (h8 : n ≤ 8) (hc : c ≤ 4) {row : Nat → Int32} {p : Nat} (R : RwOk n c be row) (l : legM n c be row p) : RwOk n c be (mvR row p) := by
  obtain ⟨R1, R2⟩ := R
  rcases l with ⟨l1, l2, ⟨a1, a2, a3, a4, a5⟩ | ⟨a1, a2, a3, a4⟩⟩
  · unfold mvR
    rw [if_pos a1]
    refine ⟨fun s hs => ?_, fun k hk => ?_⟩
    · by_cases e : s = mB p
      · rw [e, pk_us]; exact R1 _ l1
      · rw [pk_un e]
        by_cases e2 : s = mA p
        · rw [e2, pk_us]; exact R1 _ a3
        · rw [pk_un e2]; exact R1 s hs
    · have h1 := inn_upd (row := row) l1 h8 (row (mB p)) k
      have h2 := inn_upd (row := upd row (mA p) (row (mB p))) a3 h8 (row (mA p)) k
      rw [pk_un (by omega : mB p ≠ mA p)] at h2
      have := R2 k hk
      omega
  · unfold mvR
    rw [if_neg (by omega)]
    refine ⟨fun s hs => ?_, fun k hk => ?_⟩
    · by_cases e2 : s = mA p
      · rw [e2, pk_us]; exact Or.inr ⟨_, a2, rfl⟩
      · rw [pk_un e2]; exact R1 s hs
    · have h1 := inn_upd (row := row) l1 h8 (nI (mB p)) k
      have h3 := R2 k hk
      by_cases e : nI (mB p) = nI k
      · have e2 : mB p = k := i_inj (by omega) (by omega) e
        subst e2
        rw [if_pos rfl] at h1
        omega
      · rw [if_neg e] at h1
        omega
theorem i_m100 {a : Nat} (ha : a < 2147483648) : nI a - nI a / (100 : Int32) * (100 : Int32) = nI (a % 100) := pk_rem (d := 100) ha (by decide) (by decide)
theorem i_mm10 {a : Nat} (ha : a < 2147483648) : nI a - nI a / (10 : Int32) * (10 : Int32) = nI (a % 10) := pk_rem (d := 10) ha (by decide) (by decide)
theorem i_d10 {a : Nat} (ha : a < 2147483648) : nI a / (10 : Int32) = nI (a / 10) := pk_div (d := 10) ha (by decide) (by decide)
theorem cnt_there (h8 : n ≤ 8) (row : Nat → Int32) (k : Nat) : cnt (bt (setN (fun s => decide (row s = nI k)) n)) 8 = cnt (innM n row k) 8 := cnt_congr (fun s _ => by
  rw [bt_setN _ (by omega)]
  unfold innM
  by_cases hs : s < n
  · by_cases e : row s = nI k
    · rw [decide_eq_true hs, decide_eq_true e, decide_eq_true ⟨hs, e⟩]; rfl
    · rw [decide_eq_false e, Bool.and_false, decide_eq_false (p := s < n ∧ row s = nI k) (fun w => e w.2)]
  · rw [decide_eq_false hs, Bool.false_and, decide_eq_false (p := s < n ∧ row s = nI k) (fun w => hs w.1)])
theorem v_X9_move {N : Nat} (hN : 70000 ≤ N) (h8 : n ≤ 8) (hc : c ≤ 4) {g5 : Nat → Int32} (hb : ∀ k, k < c → g5 k = nI (be k) ∧ be k ≤ 8) {row : Nat → Int32} (R : RwOk n c be row) {p : Nat} (hp : p < 200) :
    (legM n c be row p ∧ F_X9_move N (nI c) (nI n) g5 row (nI p) = some (1, mvR row p)) ∨ (¬ legM n c be row p ∧ F_X9_move N (nI c) (nI n) g5 row (nI p) = some (0, row)) := by
  have hA : mA p < 10 := by unfold mA; omega
  have hB : mB p < 10 := by unfold mB; omega
  unfold F_X9_move
  rw [i_m100 (by omega), nm_def, i_d10 (by omega), nm_def, i_mm10 (by omega), nm_def, show p % 100 / 10 = mA p from rfl, show p % 10 = mB p from rfl]
  by_cases z1 : n ≤ mA p
  · rw [if_pos (i_le z1 (by omega))]
    exact Or.inr ⟨fun l => by have := l.1; omega, rfl⟩
  rw [if_neg (i_nle (by omega) (by omega)), rd_nI (by omega) (by omega)]
  by_cases z2 : row (mA p) = -1
  · rw [if_pos z2]
    exact Or.inr ⟨fun l => l.2.1 z2, rfl⟩
  rw [if_neg z2, rd_nI (by omega) (by omega)]
  by_cases z3 : 100 ≤ p
  · rw [if_pos (ge100 z3 (by omega))]
    by_cases z4 : mB p ≤ mA p
    · rw [if_pos (i_le z4 (by omega))]
      refine Or.inr ⟨fun l => ?_, rfl⟩
      rcases l.2.2 with l | l
      · omega
      · omega
    rw [if_neg (i_nle (by omega) (by omega))]
    by_cases z5 : n ≤ mB p
    · rw [if_pos (i_le z5 (by omega))]
      refine Or.inr ⟨fun l => ?_, rfl⟩
      rcases l.2.2 with l | l
      · omega
      · omega
    rw [if_neg (i_nle (by omega) (by omega)), rd_nI (by omega) (by omega)]
    by_cases z6 : row (mB p) = -1
    · rw [if_pos z6]
      refine Or.inr ⟨fun l => ?_, rfl⟩
      rcases l.2.2 with l | l
      · exact l.2.2.2.1 z6
      · omega
    rw [if_neg z6, rd_nI (by omega) (by omega)]
    by_cases z7 : row (mB p) = row (mA p)
    · rw [if_pos z7]
      refine Or.inr ⟨fun l => ?_, rfl⟩
      rcases l.2.2 with l | l
      · exact l.2.2.2.2 z7
      · omega
    rw [if_neg z7, rd_nI (by omega) (by omega), wr_nI (by omega) (by omega)]
    refine Or.inl ⟨⟨by omega, z2, Or.inl ⟨z3, by omega, by omega, z6, z7⟩⟩, ?_⟩
    rw [wr_nI (by omega) (by omega)]
    unfold mvR
    rw [if_pos z3]
  · rw [if_neg (nge100 (by omega))]
    by_cases z4 : c ≤ mB p
    · rw [if_pos (i_le z4 (by omega))]
      refine Or.inr ⟨fun l => ?_, rfl⟩
      rcases l.2.2 with l | l
      · omega
      · omega
    rw [if_neg (i_nle (by omega) (by omega))]
    by_cases z5 : nI (mB p) = row (mA p)
    · rw [if_pos z5]
      refine Or.inr ⟨fun l => ?_, rfl⟩
      rcases l.2.2 with l | l
      · omega
      · exact l.2.2.1 z5
    have hbk := hb (mB p) (by omega)
    have hcn := cnt_le (p := innM n row (mB p)) 8
    have hR := R.2 (mB p) (by omega)
    rw [if_neg z5]
    rw [bnd_of (v_X9_thereIn hN (m := 10) (by omega) h8 row (nI (mB p))), bnd_of (v_X9_bits hN _), cnt_there h8]
    rw [rd_nI (by omega) (by omega), hbk.1]
    by_cases z6 : cnt (innM n row (mB p)) 8 = be (mB p)
    · rw [z6, if_pos rfl]
      refine Or.inr ⟨fun l => ?_, rfl⟩
      rcases l.2.2 with l | l
      · omega
      · omega
    · rw [if_neg (i_ne (by omega) (by omega) z6), wr_nI (by omega) (by omega)]
      refine Or.inl ⟨⟨by omega, z2, Or.inr ⟨by omega, by omega, z5, by omega⟩⟩, ?_⟩
      unfold mvR
      rw [if_neg z3]
end Mv

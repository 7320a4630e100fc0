/-! the state of the making up: v's digits are the units' cars -/
def StU (n U : Nat) (ma : Nat → Int32) (crews uc : Nat → Int32) (v : Nat → Nat) : Prop := (∀ u, u < U → uc u = nI (v u)) ∧ ∀ k, k < 4 → ∀ s, bt (crews k) s = decide (s < n ∧ v (uO ma s) = k)
theorem cod_zero {c : Nat} {v : Nat → Nat} : ∀ {U q : Nat}, q ≤ U → (∀ t, q ≤ t → t < U → v t = 0) → cod c v U = cod c v q * c ^ (U - q)
  | 0, q, h, _ => by
    have e : q = 0 := by omega
    subst e
    rw [Nat.sub_self, Nat.pow_zero, Nat.mul_one]
  | U + 1, q, h, hz => by
    by_cases e : q = U + 1
    · subst e
      rw [Nat.sub_self, Nat.pow_zero, Nat.mul_one]
    · have ih := cod_zero (c := c) (v := v) (U := U) (q := q) (by omega) (fun t h1 h2 => hz t h1 (by omega))
      rw [cod, ih, hz U (by omega) (by omega), Nat.add_zero, show U + 1 - q = (U - q) + 1 by omega, Nat.pow_succ, Nat.mul_assoc]
section Step
variable {n c : Nat} {ma : Nat → Int32} {N : Nat}
theorem StU_step (h8 : n ≤ 8) (hm : MaG n ma) {crews uc : Nat → Int32} {v : Nat → Nat} (hc : c ≤ 4) (hv : okV c (uN ma n) v) (S : StU n (uN ma n) ma crews uc v) {p : Nat} (hp : p < uN ma n) {unit : Int32} (hu : ∀ t, t < 32 → bt unit t = decide (t < n ∧ uO ma t = p)) {x : Nat} (hx : x < 4) :
    StU n (uN ma n) ma (upd (upd crews (v p) (crews (v p) &&& (unit ^^^ (-1)))) x (upd crews (v p) (crews (v p) &&& (unit ^^^ (-1))) x ||| unit)) (upd uc p (nI x)) (fun u => if u = p then x else v u) := by
  refine ⟨fun u hu2 => ?_, fun j hj s => ?_⟩
  · show upd uc p (nI x) u = nI (if u = p then x else v u)
    by_cases e : u = p
    · rw [e, pk_us, if_pos rfl]
    · rw [pk_un e, if_neg e]
      exact S.1 u hu2
  · show _ = decide (s < n ∧ (if uO ma s = p then x else v (uO ma s)) = j)
    rcases Nat.lt_or_ge s 32 with h32 | h32
    · have hvp := hv p hp
      have e1 : ∀ j, j < 4 → bt (upd crews (v p) (crews (v p) &&& (unit ^^^ (-1))) j) s = (decide (s < n ∧ v (uO ma s) = j) && !(decide (s < n ∧ uO ma s = p))) := fun j hj => by
        by_cases e : j = v p
        · rw [e, pk_us, b_and, bt_not _ h32, S.2 _ (by omega), hu s h32]
        · rw [pk_un e, S.2 j hj]
          by_cases w : s < n ∧ uO ma s = p
          · rw [decide_eq_true w, decide_eq_false (fun y => e (by rw [← y.2, w.2]))]
            rfl
          · rw [decide_eq_false (p := s < n ∧ uO ma s = p) w, Bool.not_false, Bool.and_true]
      by_cases w : s < n ∧ uO ma s = p
      · rw [w.2, if_pos rfl]
        by_cases e : j = x
        · rw [e, pk_us, b_or, hu s h32, decide_eq_true w, Bool.or_true, decide_eq_true ⟨w.1, rfl⟩]
        · rw [pk_un e, e1 j hj, decide_eq_true (p := s < n ∧ uO ma s = p) w, Bool.not_true, Bool.and_false, decide_eq_false (fun y => e y.2.symm)]
      · have e2 : decide (s < n ∧ (if uO ma s = p then x else v (uO ma s)) = j) = decide (s < n ∧ v (uO ma s) = j) := by
          by_cases hs : s < n
          · rw [if_neg (fun y => w ⟨hs, y⟩)]
          · rw [decide_eq_false (fun y => hs y.1), decide_eq_false (fun y => hs y.1)]
        rw [e2]
        by_cases e : j = x
        · rw [e, pk_us, b_or, e1 x hx, hu s h32, decide_eq_false (p := s < n ∧ uO ma s = p) w, Bool.not_false, Bool.and_true, Bool.or_false]
        · rw [pk_un e, e1 j hj, decide_eq_false (p := s < n ∧ uO ma s = p) w, Bool.not_false, Bool.and_true]
    · rw [b_big h32, decide_eq_false (fun y => by omega)]
theorem v_X1_stepOn (hN : 70000 ≤ N) (h8 : n ≤ 8) (hm : MaG n ma) (hc : c ≤ 4) {un : Nat → Int32} (hun : unB n ma un (uN ma n)) {crews uc : Nat → Int32} {v : Nat → Nat} (hv : okV c (uN ma n) v) (S : StU n (uN ma n) ma crews uc v) :
    ∃ (b : Bool) (crews' uc' : Nat → Int32), F_X1_stepOn N (nI (uN ma n)) crews un uc (nI c) = some (b2i b, crews', uc') ∧ ((b = false ∧ cod c v (uN ma n) + 1 = c ^ uN ma n) ∨ (b = true ∧ ∃ v', okV c (uN ma n) v' ∧ StU n (uN ma n) ma crews' uc' v' ∧ cod c v' (uN ma n) = cod c v (uN ma n) + 1)) := by
  have hU := uN_le (ma := ma) n
  obtain ⟨J, hJ⟩ : ∃ J, J = cod c v (uN ma n) := ⟨_, rfl⟩
  have key : ∀ p, p ≤ uN ma n → ∀ (g : Nat) (crews uc : Nat → Int32) (v : Nat → Nat), p < g → okV c (uN ma n) v → StU n (uN ma n) ma crews uc v → (∀ t, p ≤ t → t < uN ma n → v t = 0) → J + 1 = (cod c v p + 1) * c ^ (uN ma n - p) →
      ∃ (b : Bool) (crews' uc' : Nat → Int32), F_X1_stepOn_7 N (nI (uN ma n)) un (nI c) g crews uc (nI p - 1) = some (b2i b, crews', uc') ∧ ((b = false ∧ J + 1 = c ^ uN ma n) ∨ (b = true ∧ ∃ v', okV c (uN ma n) v' ∧ StU n (uN ma n) ma crews' uc' v' ∧ cod c v' (uN ma n) = J + 1)) := by
    intro p
    induction p with
    | zero =>
      intro _ g crews uc v hg hv S hz hJ
      obtain ⟨g', rfl⟩ : ∃ g', g = g' + 1 := ⟨g - 1, by omega⟩
      refine ⟨false, crews, uc, ?_, Or.inl ⟨rfl, ?_⟩⟩
      · show B_X1_stepOn_7 N (nI (uN ma n)) un (nI c) (F_X1_stepOn_7 N (nI (uN ma n)) un (nI c) g') crews uc (nI 0 - 1) = _
        unfold B_X1_stepOn_7
        rw [if_pos dn_0]
        rfl
      · rw [hJ, Nat.sub_zero]
        show (0 + 1) * _ = _
        rw [Nat.zero_add, Nat.one_mul]
    | succ p ih =>
      intro hp g crews uc v hg hv S hz hJ
      obtain ⟨g', rfl⟩ : ∃ g', g = g' + 1 := ⟨g - 1, by omega⟩
      have hvp := hv p (by omega)
      rw [show F_X1_stepOn_7 N (nI (uN ma n)) un (nI c) (g' + 1) crews uc (nI (p + 1) - 1) = B_X1_stepOn_7 N (nI (uN ma n)) un (nI c) (F_X1_stepOn_7 N (nI (uN ma n)) un (nI c) g') crews uc (nI (p + 1) - 1) from rfl]
      have go : ∀ x, x < 4 → B_X1_stepOn_46 N (nI (uN ma n)) un (nI c) (F_X1_stepOn_7 N (nI (uN ma n)) un (nI c) g') crews uc (nI p) (un p) (nI (v p)) (nI x) = if nI x ≤ 0 then F_X1_stepOn_7 N (nI (uN ma n)) un (nI c) g' (upd (upd crews (v p) (crews (v p) &&& (un p ^^^ (-1)))) x (upd crews (v p) (crews (v p) &&& (un p ^^^ (-1))) x ||| un p)) (upd uc p (nI x)) (nI p - 1) else some (1, upd (upd crews (v p) (crews (v p) &&& (un p ^^^ (-1)))) x (upd crews (v p) (crews (v p) &&& (un p ^^^ (-1))) x ||| un p), upd uc p (nI x)) := fun x hx => by
        unfold B_X1_stepOn_46
        rw [bnd_of (atI_in (by omega) (by omega)), bnd_of (layI_in (by omega) (by omega)), bnd_of (atI_in (by omega) (by omega)), bnd_of (layI_in (by omega) (by omega)), bnd_of (layI_in (by omega) (by omega)), nm_def, dn_1 p (by omega)]
      have okx : ∀ x, x < c → okV c (uN ma n) (fun u => if u = p then x else v u) := fun x hx u hu => by
        show (if u = p then x else v u) < c
        by_cases e : u = p
        · rw [if_pos e]; exact hx
        · rw [if_neg e]; exact hv u hu
      have hpc : ∀ x, cod c (fun u => if u = p then x else v u) p = cod c v p := fun x => cod_congr (fun i hi => if_neg (by omega))
      unfold B_X1_stepOn_7
      rw [nI_pred, if_neg (i_n0 (by omega)), bnd_of (atI_in (by omega) (by omega)), bnd_of (atI_in (by omega) (by omega)), S.1 p (by omega), i_s]
      have hcod : cod c v (p + 1) = cod c v p * c + v p := rfl
      by_cases w : c ≤ v p + 1
      · have S' := StU_step h8 hm hc hv S (show p < uN ma n by omega) (hun p (by omega)) (x := 0) (by omega)
        rw [if_pos (i_le w (by omega)), show (0 : Int32) = nI 0 from rfl, go 0 (by omega), if_pos (le0 (Nat.le_refl _))]
        refine ih (by omega) g' _ _ _ (by omega) (okx 0 (by omega)) S' (fun t h1 h2 => ?_) ?_
        · show (if t = p then 0 else v t) = 0
          by_cases e : t = p
          · rw [if_pos e]
          · rw [if_neg e]; exact hz t (by omega) h2
        · rw [hpc, hJ, hcod, show uN ma n - p = (uN ma n - (p + 1)) + 1 by omega, Nat.pow_succ, Nat.mul_comm (c ^ (uN ma n - (p + 1))) c, ← Nat.mul_assoc]
          have e2 : (cod c v p + 1) * c = cod c v p * c + c := Nat.succ_mul _ _
          rw [e2, show cod c v p * c + v p + 1 = cod c v p * c + c by omega]
      · have S' := StU_step h8 hm hc hv S (show p < uN ma n by omega) (hun p (by omega)) (x := v p + 1) (by omega)
        rw [if_neg (i_nle (by omega) (by omega)), go (v p + 1) (by omega), if_neg (nle0 (by omega) (by omega))]
        refine ⟨true, _, _, rfl, Or.inr ⟨rfl, _, okx (v p + 1) (by omega), S', ?_⟩⟩
        rw [cod_zero (q := p + 1) hp (fun t h1 h2 => by
          show (if t = p then v p + 1 else v t) = 0
          rw [if_neg (by omega)]
          exact hz t h1 h2), hJ, cod, hpc, hcod]
        show (cod c v p * c + (if p = p then v p + 1 else v p)) * _ = _
        rw [if_pos rfl, Nat.add_assoc]
  unfold F_X1_stepOn
  rw [nm_def, ← hJ]
  exact key (uN ma n) (Nat.le_refl _) N crews uc v (by omega) hv S (fun t h1 h2 => absurd h2 (by omega)) (by rw [Nat.sub_self, Nat.pow_zero, Nat.mul_one, hJ])
end Step

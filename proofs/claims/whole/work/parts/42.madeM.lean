section MadeM
variable {n c : Nat} {tu : Int32} {pi lo de fr to be : Nat → Nat} {of ma g5 : Nat → Int32} {N : Nat}
theorem neg_m1 : ¬ (0 : Int32) ≤ -1 := by decide
theorem madeM_loop (hN : 70000 ≤ N) (M : MOk n pi lo de fr to of) (hc : c ≤ 4) (hb : ∀ k, k < c → g5 k = nI (be k) ∧ be k ≤ 8) (hm : MaG n ma) (p1 : Int32) (zf : (Nat → Nat) → Int32)
    (hz : ∀ f, okV c n f → ∀ tr : Nat → Int32, (∀ s, s < n → tr s = nI (f s)) → ∀ K : Int32 → Option (Int32 × (Nat → Int32) × (Nat → Int32) × (Nat → Int32)), (if p1 = -1 then K 0 else rd 10 tr p1 K) = K (zf f)) :
    ∀ (q g j : Nat) (tr ro fe : Nat → Int32) (few : Int32), j + q = c ^ n → q < g → Sc c n (LayOk n c be ma) (awkN n tu pi lo de fr to) few (fun f => ro 0 = zf f) j →
    ∃ few' tr' ro' fe', F_X9_madeUp_46 N (nI c) (nI n) tu g5 of ma p1 g tr ro fe (nI (c ^ n)) few (nI j) = (if 0 ≤ few' then if p1 = -1 then some (few', tr', ro', fe') else some (ro' 0, tr', ro', fe') else some (-1, tr', ro', fe')) ∧ Sc c n (LayOk n c be ma) (awkN n tu pi lo de fr to) few' (fun f => ro' 0 = zf f) (c ^ n) := by
  have h8 := M.1
  have hpw := pow_sm hc h8
  intro q
  induction q with
  | zero =>
    intro g j tr ro fe few hj hg hsc
    obtain ⟨g', rfl⟩ : ∃ g', g = g' + 1 := ⟨g - 1, by omega⟩
    have e : j = c ^ n := by omega
    subst e
    refine ⟨few, tr, ro, fe, ?_, hsc⟩
    show B_X9_madeUp_46 N (nI c) (nI n) tu g5 of ma p1 (F_X9_madeUp_46 N (nI c) (nI n) tu g5 of ma p1 g') tr ro fe (nI (c ^ n)) few (nI (c ^ n)) = _
    unfold B_X9_madeUp_46
    rw [if_pos (i_le (Nat.le_refl _) (by omega))]
    rfl
  | succ q ih =>
    intro g j tr ro fe few hj hg hsc
    obtain ⟨g', rfl⟩ : ∃ g', g = g' + 1 := ⟨g - 1, by omega⟩
    obtain ⟨f, hf, hcod⟩ := dig_ex (c := c) n j (by omega)
    obtain ⟨b, tr', fe', z1, z2, z3, z4, z5⟩ := v_X9_lays hN hc h8 hb hm hf tr fe
    rw [hcod] at z1
    have st := sc_step (fun v w h l => LayOk_congr h l) (fun v w h => awkN_congr h) hsc hf hcod
    rw [show F_X9_madeUp_46 N (nI c) (nI n) tu g5 of ma p1 (g' + 1) tr ro fe (nI (c ^ n)) few (nI j) = B_X9_madeUp_46 N (nI c) (nI n) tu g5 of ma p1 (F_X9_madeUp_46 N (nI c) (nI n) tu g5 of ma p1 g') tr ro fe (nI (c ^ n)) few (nI j) from rfl]
    unfold B_X9_madeUp_46
    rw [if_neg (i_nle (by omega) (by omega)), bnd_of z1]
    cases b with
    | false =>
      have nl : ¬ LayOk n c be ma f := fun l => by have := z2.mpr l; cases this
      rcases st with ⟨_, st⟩ | ⟨l, _⟩ | ⟨l, _⟩
      · rw [if_pos (show (b2i false, tr', fe').1 = 0 from rfl), nm_def, i_s]
        exact ih g' (j + 1) _ _ _ _ (by omega) (by omega) st
      · exact absurd l nl
      · exact absurd l nl
    | true =>
      have ly := z2.mp rfl
      obtain ⟨r, t, w1, w2⟩ := row_awk (tu := tu) hN M hc hf z3 z4 z5
      rw [if_neg (show ¬ (b2i true, tr', fe').1 = 0 from (by decide : ¬ b2i true = 0))]
      show ∃ few' tr'' ro' fe'', (if p1 = -1 then B_X9_madeUp_76 N (nI c) (nI n) tu g5 of ma p1 (F_X9_madeUp_46 N (nI c) (nI n) tu g5 of ma p1 g') tr' ro fe' (nI (c ^ n)) few (nI j) 0 else rd 10 tr' p1 (fun v4 => B_X9_madeUp_76 N (nI c) (nI n) tu g5 of ma p1 (F_X9_madeUp_46 N (nI c) (nI n) tu g5 of ma p1 g') tr' ro fe' (nI (c ^ n)) few (nI j) v4)) = _ ∧ _
      rw [hz f hf tr' z3 (fun v4 => B_X9_madeUp_76 N (nI c) (nI n) tu g5 of ma p1 (F_X9_madeUp_46 N (nI c) (nI n) tu g5 of ma p1 g') tr' ro fe' (nI (c ^ n)) few (nI j) v4)]
      unfold B_X9_madeUp_76 B_X9_madeUp_97
      have hw8 := awkN_le (n := n) (tu := tu) (pi := pi) (lo := lo) (de := de) (fr := fr) (to := to) f
      have hwr : ∀ k : (Nat → Int32) → Option (Int32 × (Nat → Int32) × (Nat → Int32) × (Nat → Int32)), wr 8 ro 0 (zf f) k = k (upd ro 0 (zf f)) := fun k => wr_nI (i := 0) (by omega) (by omega)
      rw [bnd_of w1, bnd_of w2]
      simp only [hwr, nm_def, i_s]
      rcases st with ⟨l, _⟩ | ⟨_, fm1, st⟩ | ⟨_, v0, fv, st⟩
      · exact absurd ly l
      · rw [fm1, if_pos (show (-1 : Int32) < 0 by decide)]
        exact ih g' (j + 1) _ _ _ _ (by omega) (by omega) (st (fun v => upd ro 0 (zf f) 0 = zf v) pk_us)
      · have hv8 := awkN_le (n := n) (tu := tu) (pi := pi) (lo := lo) (de := de) (fr := fr) (to := to) v0
        rw [fv, if_neg (i_n0 (by omega))]
        rcases st with ⟨l, st⟩ | ⟨l, st⟩
        · rw [if_pos (i_le l (by omega))]
          rw [fv] at st
          exact ih g' (j + 1) _ _ _ _ (by omega) (by omega) st
        · rw [if_neg (i_nle l (by omega))]
          exact ih g' (j + 1) _ _ _ _ (by omega) (by omega) (st (fun v => upd ro 0 (zf f) 0 = zf v) pk_us)
theorem sc_best {few : Int32} {Row : (Nat → Nat) → Prop} (h : Sc c n (LayOk n c be ma) (awkN n tu pi lo de fr to) few Row (c ^ n)) : BestR n c tu pi lo de fr to be ma few Row := by
  rcases h with ⟨h1, h2⟩ | ⟨v, a1, a2, a3, a4, a5, a6⟩
  · exact Or.inl ⟨h1, fun f l => h2 f l.1 (cod_lt l.1) l⟩
  · refine Or.inr ⟨v, a3, a4, a5, fun g l => ?_⟩
    rcases a6 g l.1 l (cod_lt l.1) with x | ⟨x, y⟩
    · exact Or.inl x
    · exact Or.inr ⟨x, cod_cmp a1 l.1 y⟩
theorem madeM (hN : 70000 ≤ N) (M : MOk n pi lo de fr to of) (hc : c ≤ 4) (hb : ∀ k, k < c → g5 k = nI (be k) ∧ be k ≤ 8) (hm : MaG n ma) (p1 : Int32) (zf : (Nat → Nat) → Int32)
    (hz : ∀ f, okV c n f → ∀ tr : Nat → Int32, (∀ s, s < n → tr s = nI (f s)) → ∀ K : Int32 → Option (Int32 × (Nat → Int32) × (Nat → Int32) × (Nat → Int32)), (if p1 = -1 then K 0 else rd 10 tr p1 K) = K (zf f)) (tr ro fe : Nat → Int32) :
    ∃ few tr' ro' fe', F_X9_madeUp_20 N (nI c) (nI n) tu g5 of ma p1 N tr ro fe 1 0 = (if 0 ≤ few then if p1 = -1 then some (few, tr', ro', fe') else some (ro' 0, tr', ro', fe') else some (-1, tr', ro', fe')) ∧ BestR n c tu pi lo de fr to be ma few (fun f => ro' 0 = zf f) := by
  have h8 := M.1
  have hpw := pow_sm hc h8
  obtain ⟨few, tr', ro', fe', k1, k2⟩ := madeM_loop hN M (tu := tu) (be := be) (ma := ma) hc hb hm p1 zf hz (c ^ n) N 0 tr ro fe (-1) (by omega) (by omega) (sc_0 _)
  refine ⟨few, tr', ro', fe', ?_, sc_best k2⟩
  have h := lq5_run (body := fun self => B_X9_madeUp_20 N (nI c) (nI n) tu g5 of ma p1 self) (fun _ => tr) (fun _ => ro) (fun _ => fe) (fun i => nI (c ^ i)) (fun i => nI i) n (if 0 ≤ few then if p1 = -1 then some (few, tr', ro', fe') else some (ro' 0, tr', ro', fe') else some (-1, tr', ro', fe')) (fun self i hi => by
    show B_X9_madeUp_20 N (nI c) (nI n) tu g5 of ma p1 self _ _ _ _ _ = _
    unfold B_X9_madeUp_20
    rw [if_neg (i_nle hi (by omega)), pk_mul, nm_def, nm_def, i_s, Nat.pow_succ]) (fun self => by
    show B_X9_madeUp_20 N (nI c) (nI n) tu g5 of ma p1 self _ _ _ _ _ = _
    unfold B_X9_madeUp_20
    rw [if_pos (i_le (Nat.le_refl _) (by omega))]
    exact k1) N (by omega)
  rw [Nat.pow_zero] at h
  exact h
end MadeM

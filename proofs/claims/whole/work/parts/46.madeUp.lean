def RowB (n : Nat) (best : Nat → Int32) (f : Nat → Nat) : Prop := ∀ k, k < 4 → ∀ s, bt (best k) s = decide (s < n ∧ f s = k)
def LayU (n c : Nat) (be : Nat → Nat) (ma : Nat → Int32) (v : Nat → Nat) : Prop := LayOk n c be ma (fun s => v (uO ma s))
def awkU (n : Nat) (tu : Int32) (pi lo de fr to : Nat → Nat) (ma : Nat → Int32) (v : Nat → Nat) : Nat := awkN n tu pi lo de fr to (fun s => v (uO ma s))
def RowU (n : Nat) (ma best : Nat → Int32) (v : Nat → Nat) : Prop := RowB n best (fun s => v (uO ma s))
section Search
variable {n c : Nat} {tu : Int32} {pi lo de fr to be : Nat → Nat} {of ma f4 f10 lou dep ja sn : Nat → Int32} {N : Nat}
theorem LayU_congr (h8 : n ≤ 8) (hm : MaG n ma) (v w : Nat → Nat) (h : ∀ i, i < uN ma n → v i = w i) (l : LayU n c be ma v) : LayU n c be ma w := LayOk_congr (fun s hs => h _ (uO_lt h8 hm hs)) l
theorem awkU_congr (h8 : n ≤ 8) (hm : MaG n ma) (v w : Nat → Nat) (h : ∀ i, i < uN ma n → v i = w i) : awkU n tu pi lo de fr to ma v = awkU n tu pi lo de fr to ma w := awkN_congr (fun s hs => h _ (uO_lt h8 hm hs))
theorem awkU_le (v : Nat → Nat) : awkU n tu pi lo de fr to ma v ≤ 8 := awkN_le _
theorem sc_units (h8 : n ≤ 8) (hm : MaG n ma) (hc : c ≤ 4) {few : Int32} {best : Nat → Int32} {j : Nat} (hj : j ≤ c ^ uN ma n) (he : j = c ^ uN ma n ∨ few = 0)
    (h : Sc c (uN ma n) (LayU n c be ma) (awkU n tu pi lo de fr to ma) few (RowU n ma best) j) : BestR n c tu pi lo de fr to be ma few (RowB n best) := by
  have hg : ∀ g, LayOk n c be ma g → okV c (uN ma n) (fun u => g (fU ma n u)) ∧ ∀ s, s < n → g s = g (fU ma n (uO ma s)) := fun g l => by
    refine ⟨fun u hu => ?_, fun s hs => ?_⟩
    · obtain ⟨s, h1, h2, h3⟩ := uN_ex hu
      show g (fU ma n u) < c
      rw [← h3, fU_eq h1 h2]
      exact l.1 s h1
    · rcases uO_cases h8 hm hs with ⟨q, e⟩ | ⟨m, l2, z1, z2, q, _, e⟩
      · rw [e, fU_eq hs q]
      · rw [e, fU_eq (by omega) q]
        exact (l.2.2 s hs m (by omega) z1).symm
  rcases h with ⟨h1, h2⟩ | ⟨v, a1, a2, a3, a4, a5, a6⟩
  · refine Or.inl ⟨h1, fun g l => ?_⟩
    obtain ⟨g1, g2⟩ := hg g l
    rcases he with he | he
    · exact h2 _ g1 (by rw [he]; exact cod_lt g1) (LayOk_congr g2 l)
    · rw [h1] at he
      exact absurd he (by decide)
  · refine Or.inr ⟨_, a3, a4, a5, fun g l => ?_⟩
    obtain ⟨g1, g2⟩ := hg g l
    have ew : awkN n tu pi lo de fr to g = awkN n tu pi lo de fr to (fun s => g (fU ma n (uO ma s))) := awkN_congr g2
    have up : cod c v (uN ma n) ≤ cod c (fun u => g (fU ma n u)) (uN ma n) → (∀ s, s < n → v (uO ma s) = g s) ∨ lexL n (fun s => v (uO ma s)) g := fun le => by
      rcases cod_cmp a1 g1 le with e | ⟨u, u1, u2, u3⟩
      · exact Or.inl (fun s hs => by rw [g2 s hs]; exact e _ (uO_lt h8 hm hs))
      · obtain ⟨s, s1, s2, s3⟩ := uN_ex u1
        have es : uO ma s = u := (if_pos s2 : uO ma s = uN ma s).trans s3
        refine Or.inr ⟨s, s1, ?_, fun t ht => ?_⟩
        · show v (uO ma s) < g s
          rw [g2 s s1, es]
          exact u2
        · show v (uO ma t) = g t
          rw [g2 t (by omega)]
          exact u3 _ (by rw [← s3]; exact uO_below h8 hm (by omega) s2 ht)
    rcases Nat.lt_or_ge (cod c (fun u => g (fU ma n u)) (uN ma n)) j with q | q
    · rcases a6 _ g1 (LayOk_congr g2 l) q with x | ⟨x, y⟩
      · exact Or.inl (by rw [ew]; exact x)
      · exact Or.inr ⟨by rw [ew]; exact x, up y⟩
    · have hz : few = 0 := by
        rcases he with he | he
        · have := cod_lt (c := c) g1
          omega
        · exact he
      have w0 : awkN n tu pi lo de fr to (fun s => v (uO ma s)) = 0 := by
        have := awkN_le (n := n) (tu := tu) (pi := pi) (lo := lo) (de := de) (fr := fr) (to := to) (fun s => v (uO ma s))
        exact i_inj (by omega) (by omega) (a4.symm.trans hz)
      rcases Nat.eq_zero_or_pos (awkN n tu pi lo de fr to g) with x | x
      · exact Or.inr ⟨by rw [w0, x], up (by omega)⟩
      · exact Or.inl (by rw [w0]; exact x)
theorem v_X1_search (hN : 70000 ≤ N) (M : MOk n pi lo de fr to of) (E : EarOk n tu pi lo de fr to lou dep ja sn) (hc : c ≤ 4) (hcn : c = 0 → n = 0) (hb : ∀ k, k < c → f4 k = nI (be k) ∧ be k ≤ 8) (hm : MaG n ma) (he : ∀ s, s < n → f10 s = ma s) (x1 x2 x3 : Int32) (best0 cr0 un0 uc0 wk0 : Nat → Int32) :
    ∃ few many best cr un uc wk, F_X1_search N x1 x2 x3 best0 cr0 un0 uc0 wk0 (nI c) (nI n) f4 f10 lou dep ja sn = some (1, few, many, best, cr, un, uc, wk) ∧ BestR n c tu pi lo de fr to be ma few (RowB n best) := by
  have h8 := M.1
  have hU := uN_le (ma := ma) n
  have hpw := pow_sm (n := uN ma n) hc (by omega)
  obtain ⟨all, un, uc, g1, g2, g3, g4⟩ := v_X1_gather hN h8 hm he x3 un0 uc0
  unfold F_X1_search
  rw [bnd_of (v_J7_fill (by omega) (by omega) wk0 (-1)), bnd_of (v_J7_fill (by omega) (by omega) cr0 0), bnd_of g1]
  have hly : F_X8_lay 4 (va_cpy (fun _ => 0) cr0 0 0 4) 0 all = some (upd (va_cpy (fun _ => 0) cr0 0 0 4) 0 all) := layI_in (i := 0) (by omega) (by omega)
  rw [bnd_of hly]
  have key : ∀ q g i (few : Int32) (best crews uc wk : Nat → Int32) (v : Nat → Nat), i + q = 65536 → q < g → okV c (uN ma n) v → cod c v (uN ma n) = i → StU n (uN ma n) ma crews uc v → WkI n tu pi lo de fr to wk →
      Sc c (uN ma n) (LayU n c be ma) (awkU n tu pi lo de fr to ma) few (RowU n ma best) i →
      ∃ few' many best' cr un' uc' wk', F_X1_search_41 N (nI c) (nI n) f4 f10 lou dep ja sn g 1 few (nI (uN ma n)) best crews un uc wk (nI i) = some (1, few', many, best', cr, un', uc', wk') ∧ BestR n c tu pi lo de fr to be ma few' (RowB n best') := by
    intro q
    induction q with
    | zero =>
      intro g i few best crews uc wk v hi hg hv hcod S W hsc
      have := cod_lt (c := c) hv
      omega
    | succ q ih =>
      intro g i few best crews uc wk v hi hg hv hcod S W hsc
      obtain ⟨g', rfl⟩ : ∃ g', g = g' + 1 := ⟨g - 1, by omega⟩
      have hlt := cod_lt (c := c) hv
      have st := sc_step (c := c) (U := uN ma n) (Lay := LayU n c be ma) (wt := awkU n tu pi lo de fr to ma) (LayU_congr h8 hm) (awkU_congr h8 hm) hsc hv hcod
      have hfew : few = -1 ∨ ∃ u, u ≤ 8 ∧ few = nI u := by
        rcases hsc with ⟨h1, _⟩ | ⟨w, _, _, _, h1, _⟩
        · exact Or.inl h1
        · exact Or.inr ⟨_, awkU_le (ma := ma) w, h1⟩
      have hfv : okV c n (fun s => v (uO ma s)) := fun s hs => hv _ (uO_lt h8 hm hs)
      have hmt : ∀ s, s < n → ∀ m, m < n → ma s = nI m → (fun s => v (uO ma s)) m = (fun s => v (uO ma s)) s := fun s hs m hmn e => by
        show v (uO ma m) = v (uO ma s)
        rw [uO_mate h8 hm hs hmn e]
      obtain ⟨wk', W', hwe⟩ := v_X1_weigh hN M E hc hb hfv hmt S.2 hfew best W
      have hwe : (¬ LayU n c be ma v ∧ F_X1_weigh N few best crews wk (nI c) f4 lou dep ja sn = some (few, best, wk')) ∨ (LayU n c be ma v ∧ F_X1_weigh N few best crews wk (nI c) f4 lou dep ja sn = if few = -1 then some (nI (awkU n tu pi lo de fr to ma v), va_cpy crews best 0 0 4, wk') else if few ≤ nI (awkU n tu pi lo de fr to ma v) then some (few, best, wk') else some (nI (awkU n tu pi lo de fr to ma v), va_cpy crews best 0 0 4, wk')) := hwe
      have fin : ∀ (few2 : Int32) (best2 : Nat → Int32), F_X1_weigh N few best crews wk (nI c) f4 lou dep ja sn = some (few2, best2, wk') → Sc c (uN ma n) (LayU n c be ma) (awkU n tu pi lo de fr to ma) few2 (RowU n ma best2) (i + 1) →
          ∃ few' many best' cr un' uc' wk', F_X1_search_41 N (nI c) (nI n) f4 f10 lou dep ja sn (g' + 1) 1 few (nI (uN ma n)) best crews un uc wk (nI i) = some (1, few', many, best', cr, un', uc', wk') ∧ BestR n c tu pi lo de fr to be ma few' (RowB n best') := fun few2 best2 hw hs2 => by
        rw [show F_X1_search_41 N (nI c) (nI n) f4 f10 lou dep ja sn (g' + 1) 1 few (nI (uN ma n)) best crews un uc wk (nI i) = B_X1_search_41 N (nI c) (nI n) f4 f10 lou dep ja sn (F_X1_search_41 N (nI c) (nI n) f4 f10 lou dep ja sn g') 1 few (nI (uN ma n)) best crews un uc wk (nI i) from rfl]
        unfold B_X1_search_41
        have h65 : ¬ (65536 : Int32) ≤ nI i := i_nle (a := 65536) (by omega) (by omega)
        rw [if_neg h65, bnd_of hw]
        by_cases z : few2 = 0
        · rw [if_pos (show (few2, best2, wk').1 = 0 from z)]
          exact ⟨_, _, _, _, _, _, _, rfl, sc_units h8 hm hc (by omega) (Or.inr z) hs2⟩
        · rw [if_neg (show ¬ (few2, best2, wk').1 = 0 from z)]
          obtain ⟨b, crews', uc', e1, e2⟩ := v_X1_stepOn hN h8 hm hc g2 hv S
          rw [bnd_of e1]
          rcases e2 with ⟨rfl, e2⟩ | ⟨rfl, v', e2, e3, e4⟩
          · rw [if_pos (show (b2i false, crews', uc').1 = 0 from rfl)]
            exact ⟨_, _, _, _, _, _, _, rfl, sc_units h8 hm hc (by omega) (Or.inl (by omega)) hs2⟩
          · rw [if_neg (show ¬ (b2i true, crews', uc').1 = 0 from (by decide : ¬ b2i true = 0)), nm_def, i_s]
            exact ih g' (i + 1) few2 best2 crews' uc' wk' v' (by omega) (by omega) e2 (by omega) e3 W' hs2
      have hrow : RowU n ma (va_cpy crews best 0 0 4) v := fun k hk s => by
        rw [cpy_in0 hk]
        exact S.2 k hk s
      rcases st with ⟨nl, st⟩ | ⟨ly, f1, st⟩ | ⟨ly, v0, f1, st⟩
      · rcases hwe with ⟨_, hw⟩ | ⟨l, _⟩
        · exact fin _ _ hw st
        · exact absurd l nl
      · rcases hwe with ⟨nl, _⟩ | ⟨_, hw⟩
        · exact absurd ly nl
        · rw [if_pos f1] at hw
          exact fin _ _ hw (st (RowU n ma (va_cpy crews best 0 0 4)) hrow)
      · rcases hwe with ⟨nl, _⟩ | ⟨_, hw⟩
        · exact absurd ly nl
        · have b1 := awkU_le (n := n) (tu := tu) (pi := pi) (lo := lo) (de := de) (fr := fr) (to := to) (ma := ma) v
          have b2 := awkU_le (n := n) (tu := tu) (pi := pi) (lo := lo) (de := de) (fr := fr) (to := to) (ma := ma) v0
          rw [if_neg (by rw [f1]; exact i_m1 (by omega))] at hw
          rcases st with ⟨l, st⟩ | ⟨l, st⟩
          · rw [if_pos (by rw [f1]; exact i_le l (by omega))] at hw
            exact fin _ _ hw st
          · rw [if_neg (by rw [f1]; exact i_nle l (by omega))] at hw
            exact fin _ _ hw (st (RowU n ma (va_cpy crews best 0 0 4)) hrow)
  have hv0 : okV c (uN ma n) (fun _ => 0) := fun u hu => by
    rcases Nat.eq_zero_or_pos c with e | e
    · have := hcn e
      omega
    · exact e
  have hc0 : cod c (fun _ => 0) (uN ma n) = 0 := by
    have := cod_zero (c := c) (v := fun _ => 0) (U := uN ma n) (q := 0) (Nat.zero_le _) (fun _ _ _ => rfl)
    rw [this]
    exact Nat.zero_mul _
  refine key 65536 N 0 (-1) best0 _ uc _ (fun _ => 0) (by omega) (by omega) hv0 hc0 ⟨g3, fun k hk s => ?_⟩ (fun m hm => Or.inl (cpy_in0 hm)) (sc_0 _)
  show bt (upd (va_cpy (fun _ => 0) cr0 0 0 4) 0 all k) s = decide (s < n ∧ 0 = k)
  by_cases e : k = 0
  · subst e
    rw [pk_us]
    rcases Nat.lt_or_ge s 32 with q | q
    · rw [g4 s q]
      by_cases w : s < n
      · rw [decide_eq_true w, decide_eq_true ⟨w, rfl⟩]
      · rw [decide_eq_false w, decide_eq_false (fun y => w y.1)]
    · rw [b_big q, decide_eq_false (fun y => by omega)]
  · rw [pk_un e, cpy_in0 hk, b_0, decide_eq_false (fun y => e y.2.symm)]
theorem best_of (hc : c ≤ 4) {few : Int32} {best : Nat → Int32} (h : BestR n c tu pi lo de fr to be ma few (RowB n best)) : ∃ row : Nat → Int32, BestM n c tu pi lo de fr to be ma few row ∧ (few = -1 ∨ Cr n row best) := by
  rcases h with h | ⟨f, h1, h2, h3, h4⟩
  · exact ⟨fun _ => 0, Or.inl h, Or.inl h.1⟩
  · refine ⟨fun s => nI (f s), Or.inr ⟨f, h1, h2, fun s _ => rfl, h4⟩, Or.inr (fun k hk s => ?_)⟩
    rw [h3 k hk s]
    unfold innM
    by_cases hs : s < n
    · have hfs := h1.1 s hs
      by_cases e : f s = k
      · rw [decide_eq_true (p := s < n ∧ f s = k) ⟨hs, e⟩, decide_eq_true (p := s < n ∧ nI (f s) = nI k) ⟨hs, by rw [e]⟩]
      · rw [decide_eq_false (p := s < n ∧ f s = k) (fun w => e w.2), decide_eq_false (p := s < n ∧ nI (f s) = nI k) (fun w => i_ne (by omega) (by omega) e w.2)]
    · rw [decide_eq_false (fun w => hs w.1), decide_eq_false (fun w => hs w.1)]
theorem of_best (hc : c ≤ 4) {few : Int32} {best row : Nat → Int32} (h : BestM n c tu pi lo de fr to be ma few row) (hr : few = -1 ∨ Cr n row best) : BestR n c tu pi lo de fr to be ma few (RowB n best) := by
  rcases h with h | ⟨f, h1, h2, h3, h4⟩
  · exact Or.inl h
  · have hr2 : Cr n row best := by
      rcases hr with hr | hr
      · have := awkN_le (n := n) (tu := tu) (pi := pi) (lo := lo) (de := de) (fr := fr) (to := to) f
        exact absurd (h2.symm.trans hr) (i_m1 (by omega))
      · exact hr
    refine Or.inr ⟨f, h1, h2, fun k hk s => ?_, h4⟩
    rw [hr2 k hk s]
    unfold innM
    by_cases hs : s < n
    · have hfs := h1.1 s hs
      rw [h3 s hs]
      by_cases e : f s = k
      · rw [decide_eq_true (p := s < n ∧ f s = k) ⟨hs, e⟩, decide_eq_true (p := s < n ∧ nI (f s) = nI k) ⟨hs, by rw [e]⟩]
      · rw [decide_eq_false (p := s < n ∧ f s = k) (fun w => e w.2), decide_eq_false (p := s < n ∧ nI (f s) = nI k) (fun w => i_ne (by omega) (by omega) e w.2)]
    · rw [decide_eq_false (fun w => hs w.1), decide_eq_false (fun w => hs w.1)]
end Search
section Ops
variable {si : Nat → Int32} {fa : Nat → Nat → Int32} {sm : Nat → Int32} {fm : Nat → Nat → Int32} {N : Nat}
theorem op_madeUp (hN : 70000 ≤ N) (I : Inv si fa sm fm) (p1 : Int32) : ∃ r x27 x28 x29 f42 f43 f44 f45 f46 g9 g15 g16, F_X8_madeUp N (si 11) (si 12) (si 27) (si 28) (si 29) (fa 4) (fa 10) (fa 21) (fa 22) (fa 23) (fa 24) (fa 42) (fa 43) (fa 44) (fa 45) (fa 46) p1 = some (r, x27, x28, x29, f42, f43, f44, f45, f46) ∧ F_X9_madeUp N (sm 12) (sm 13) (sm 15) (fm 5) (fm 6) (fm 7) (fm 9) (fm 15) (fm 16) p1 = some (r, g9, g15, g16) ∧
    Inv (upd (upd (upd si 27 x27) 28 x28) 29 x29) (va_up (va_up (va_up (va_up (va_up fa 42 f42) 43 f43) 44 f44) 45 f45) 46 f46) sm (va_up (va_up (va_up fm 9 g9) 15 g15) 16 g16) := by
  obtain ⟨hTx, hF, n, c, cp, tu, pi, lo, de, fr, to, be, hTr, hEa, hNt, hSd, hUn, hIm, hBo, hMk⟩ := id I
  obtain ⟨a1, a2, a3, M, T, a6, a7, a8, a9, a10, a11, a12, a13, a14, a15⟩ := id hTr
  have h8 := M.1
  have hm : MaG n (fm 7) := fun s hs => (a15 s hs).2
  have cls : ∃ few many best cr un uc wk, B_X8_madeUp_16 N (nI c) (nI n) (fa 4) (fa 10) (fa 21) (fa 22) (fa 23) (fa 24) p1 (si 27) (si 28) (si 29) (fa 42) (fa 43) (fa 44) (fa 45) (fa 46) = B_X8_madeUp_41 N (nI c) (nI n) (fa 4) (fa 10) (fa 21) (fa 22) (fa 23) (fa 24) p1 1 few many best cr un uc wk ∧ BestR n c tu pi lo de fr to be (fm 7) few (RowB n best) := by
    unfold B_X8_madeUp_16
    rcases hMk with h0 | ⟨h1, row, h2, h3⟩
    · obtain ⟨few, many, best, cr, un, uc, wk, s1, s2⟩ := v_X1_search hN M hEa.2 a1 a3 (fun k hk => ⟨(a14 k hk).1, (a14 k hk).2.2.2⟩) hm (fun s hs => (a15 s hs).1) (si 27) (si 28) (si 29) (fa 42) (fa 43) (fa 44) (fa 45) (fa 46)
      rw [if_pos h0, bnd_of s1]
      exact ⟨_, _, _, _, _, _, _, rfl, s2⟩
    · rw [if_neg (by rw [h1]; decide), h1]
      exact ⟨_, _, _, _, _, _, _, rfl, of_best a1 h2 h3⟩
  obtain ⟨few, many, best, cr, un, uc, wk, k1, k2⟩ := cls
  have inv : ∀ g9 g15 g16, Inv (upd (upd (upd si 27 1) 28 few) 29 many) (va_up (va_up (va_up (va_up (va_up fa 42 best) 43 cr) 44 un) 45 uc) 46 wk) sm (va_up (va_up (va_up fm 9 g9) 15 g15) 16 g16) := fun _ _ _ => ⟨hTx, hF, n, c, cp, tu, pi, lo, de, fr, to, be, hTr, hEa, hNt, hSd, hUn, hIm, hBo, Or.inr ⟨rfl, best_of a1 k2⟩⟩
  have hbM : ∀ k, k < c → fm 5 k = nI (be k) ∧ be k ≤ 8 := fun k hk => ⟨(a14 k hk).2.1, (a14 k hk).2.2.2⟩
  unfold F_X8_madeUp F_X9_madeUp
  rw [a6, a7, a10, a11, a13]
  by_cases c1 : p1 = -1
  · obtain ⟨few2, t', ro', fe', m1, m2⟩ := madeM hN M a1 hbM hm p1 (fun _ => 0) (fun f hf tr ht K => if_pos c1) (tu := tu) (fm 9) (fm 15) (fm 16)
    rw [if_pos c1, if_pos c1, k1, m1]
    unfold B_X8_madeUp_41
    obtain ⟨e, _⟩ := best_one k2 m2
    rw [if_pos c1, if_pos c1, ← e]
    by_cases z : 0 ≤ few
    · rw [if_pos z]
      exact ⟨_, _, _, _, _, _, _, _, _, _, _, _, rfl, rfl, inv _ _ _⟩
    · rw [if_neg z]
      have ef : few = -1 := by
        rcases k2 with k2 | ⟨f, _, w, _⟩
        · exact k2.1
        · have := awkN_le (n := n) (tu := tu) (pi := pi) (lo := lo) (de := de) (fr := fr) (to := to) f
          exact absurd (by rw [w]; exact ge0 (Nat.zero_le _) (by omega)) z
      exact ⟨_, _, _, _, _, _, _, _, _, _, _, _, rfl, congrArg (fun z => some (z, t', ro', fe')) ef.symm, inv t' ro' fe'⟩
  · rw [if_neg c1, if_neg c1]
    rcases no_one (c := n) (by omega) p1 with ⟨e1, e2⟩ | ⟨s, hs, rfl, e1, e2⟩
    · rw [bnd_of e1, bnd_of e2, if_neg (show ¬ (1 : Int32) = 0 by decide), if_pos (show (0 : Int32) = 0 from rfl)]
      exact ⟨_, _, _, _, _, _, _, _, _, _, _, _, rfl, rfl, hTx, hF, n, c, cp, tu, pi, lo, de, fr, to, be, hTr, hEa, hNt, hSd, hUn, hIm, hBo, hMk⟩
    rw [bnd_of e1, bnd_of e2, if_neg (show ¬ (1 : Int32) = 0 by decide), if_pos (show (0 : Int32) = 0 from rfl)]
    obtain ⟨few2, t', ro', fe', m1, m2⟩ := madeM hN M a1 hbM hm (nI s) (fun f => nI (f s)) (fun f hf tr ht K => by
      rw [if_neg c1, rd_nI (by omega) (by omega), ht s hs]) (tu := tu) (fm 9) (fm 15) (fm 16)
    rw [k1, m1]
    unfold B_X8_madeUp_41
    obtain ⟨e, w⟩ := best_one k2 m2
    rw [if_neg c1, if_neg c1, ← e]
    rcases w with ⟨w1, w2⟩ | ⟨f, g, w1, w2, w3, w4, w5⟩
    · rw [if_pos w1, if_neg (by rw [w1]; decide), w1]
      rw [w1] at inv
      exact ⟨_, _, _, _, _, _, _, _, _, _, _, _, rfl, rfl, inv _ _ _⟩
    · have b1 := awkN_le (n := n) (tu := tu) (pi := pi) (lo := lo) (de := de) (fr := fr) (to := to) f
      have hcr : Cr n (fun s => nI (f s)) best := fun k hk s => by
        rw [w3 k hk s]
        unfold innM
        by_cases hs : s < n
        · have hfs := w1.1 s hs
          by_cases e : f s = k
          · rw [decide_eq_true (p := s < n ∧ f s = k) ⟨hs, e⟩, decide_eq_true (p := s < n ∧ nI (f s) = nI k) ⟨hs, by rw [e]⟩]
          · rw [decide_eq_false (p := s < n ∧ f s = k) (fun w => e w.2), decide_eq_false (p := s < n ∧ nI (f s) = nI k) (fun w => i_ne (by omega) (by omega) e w.2)]
        · rw [decide_eq_false (fun w => hs w.1), decide_eq_false (fun w => hs w.1)]
      rw [if_neg (by rw [w2]; exact i_m1 (by omega)), if_pos (by rw [w2]; exact ge0 (Nat.zero_le _) (by omega)), bnd_of (v_X8_carOf hN h8 hcr (fun t ht => Or.inr ⟨f t, by have := w1.1 t ht; omega, rfl⟩) hs)]
      exact ⟨_, _, _, _, _, _, _, _, _, _, _, _, rfl, congrArg (fun z => some (z, t', ro', fe')) (w4.trans (by show nI (g s) = nI (f s); rw [w5 s hs])), inv t' ro' fe'⟩
end Ops

def sumW (g : Nat → Nat) : Nat → Nat
  | 0 => 0
  | k + 1 => sumW g k + g k
theorem cnt_or {p q : Nat → Bool} : ∀ {n : Nat}, (∀ s, s < n → p s = true → q s = true → False) → cnt (fun s => p s || q s) n = cnt p n + cnt q n
  | 0, _ => rfl
  | n + 1, h => by
    rw [cnt, cnt, cnt, cnt_or (n := n) (fun s hs => h s (by omega))]
    have hn := h n (by omega)
    cases hp : p n with
    | false =>
      cases hq : q n with
      | false => show _ + 0 = _ + 0 + (_ + 0); omega
      | true => show _ + 1 = _ + 0 + (_ + 1); omega
    | true =>
      cases hq : q n with
      | false => show _ + 1 = _ + 1 + (_ + 0); omega
      | true => exact (hn hp hq).elim
theorem cnt_none : ∀ n : Nat, cnt (fun _ => false) n = 0
  | 0 => rfl
  | n + 1 => by rw [cnt, cnt_none n]; rfl
theorem cnt_any {p : Nat → Nat → Bool} {n : Nat} : ∀ {K : Nat}, (∀ k j s, k < K → j < K → s < n → p k s = true → p j s = true → j = k) → cnt (fun s => anyN (fun k => p k s) K) n = sumW (fun k => cnt (p k) n) K
  | 0, _ => by
    show cnt (fun _ => false) n = 0
    exact cnt_none n
  | K + 1, h => by
    rw [sumW, ← cnt_any (K := K) (fun k j s hk hj => h k j s (by omega) (by omega))]
    refine cnt_or (p := fun s => anyN (fun k => p k s) K) (q := p K) (fun s hs h1 h2 => ?_)
    obtain ⟨k, hk, h3⟩ := anyN_iff.mp h1
    have := h k K s (by omega) (by omega) hs h3 h2
    omega
theorem sumW_more {g : Nat → Nat} {c : Nat} : ∀ d, (∀ k, c ≤ k → k < c + d → g k = 0) → sumW g (c + d) = sumW g c
  | 0, _ => rfl
  | d + 1, h => by
    show sumW g (c + d) + g (c + d) = _
    rw [sumW_more d (fun k h1 h2 => h k h1 (by omega)), h (c + d) (by omega) (by omega), Nat.add_zero]
theorem sumW_le {g : Nat → Nat} (h : ∀ k, g k ≤ 8) : ∀ c, sumW g c ≤ 8 * c
  | 0 => Nat.le_refl _
  | c + 1 => by
    have := sumW_le h c
    have := h c
    rw [sumW]
    omega
section Weigh
variable {n c : Nat} {tu : Int32} {pi lo de fr to be : Nat → Nat} {of ma f4 lou dep ja sn : Nat → Int32} {N : Nat}
def wkN (n : Nat) (tu : Int32) (pi lo de fr to : Nat → Nat) (q : Nat → Bool) : Nat := cnt (moK (jarT tu pi) (iF lo) (iF de) (liveT n fr to) q 12 (fun _ => false) 0) 8
def WkI (n : Nat) (tu : Int32) (pi lo de fr to : Nat → Nat) (wk : Nat → Int32) : Prop := ∀ m, m < 256 → (wk m = -1 ∨ wk m = nI (wkN n tu pi lo de fr to (bt (nI m))))
theorem v_X1_wakersOf (hN : 70000 ≤ N) (M : MOk n pi lo de fr to of) (E : EarOk n tu pi lo de fr to lou dep ja sn) {wk : Nat → Int32} (W : WkI n tu pi lo de fr to wk) {x : Int32} (hx : ∀ s, bt x s = true → s < n) :
    ∃ wk', F_X1_wakersOf N wk lou dep ja sn x = some (nI (wkN n tu pi lo de fr to (bt x)), wk') ∧ WkI n tu pi lo de fr to wk' := by
  have h8 := M.1
  obtain ⟨m, hm, rfl⟩ := small8 (x := x) (fun i hi => by
    cases e : bt x i with
    | false => rfl
    | true => have := hx i e; omega)
  unfold F_X1_wakersOf B_X1_wakersOf_30
  rw [bnd_of (atI_in hm (by omega))]
  by_cases q : wk m = -1
  · have hde : ∀ s, s < 8 → bt (nI m) s = true → 0 ≤ dep s := fun s _ hb => by
      have hs := hx s hb
      rw [E.2.1 s hs]
      exact i_le (a := 0) (Nat.zero_le _) (by have := (M.2 s hs).2.2.2.2.2.2.2.1; omega)
    have hmo : F_X0_morningOfOne N lou dep ja sn (nI m) 0 0 = some (moC lou dep ja sn (nI m) 12 0 0) := v_X0_morningOfOne hN hde (h := 0) (by omega)
    have hbt : ∀ s, bt (moC lou dep ja sn (nI m) 12 0 0) s = moK (jarT tu pi) (iF lo) (iF de) (liveT n fr to) (bt (nI m)) 12 (fun _ => false) 0 s := fun s => by
      rw [ear_moC h8 E (fun t ht => hx t ht) 12 0 0 (by omega) s]
      rw [show bt 0 = fun _ => false from funext b_0]
    have hbc : F_J6_bitCount_0f7a4 (moC lou dep ja sn (nI m) 12 0 0) = some (nI (wkN n tu pi lo de fr to (bt (nI m)))) := by
      rw [v_J6_bitCount (fun i hi => by
        rw [hbt, moK_out 12]
        cases e : bt (nI m) i with
        | false => rfl
        | true => have := hx i e; omega)]
      unfold wkN
      rw [cnt_congr (fun s _ => hbt s)]
    rw [if_pos q, bnd_of hmo, bnd_of hbc, bnd_of (layI_in hm (by omega)), bnd_of (atI_in hm (by omega)), pk_us]
    refine ⟨_, rfl, fun m' hm' => ?_⟩
    by_cases e : m' = m
    · rw [e, pk_us]; exact Or.inr rfl
    · rw [pk_un e]; exact W m' hm'
  · rcases W m hm with z | z
    · exact absurd z q
    · rw [if_neg q, bnd_of (atI_in hm (by omega)), z]
      exact ⟨_, rfl, W⟩
theorem awk_sum (hc : c ≤ 4) {f : Nat → Nat} (hf : okV c n f) : awkN n tu pi lo de fr to f = sumW (fun k => wkN n tu pi lo de fr to (fun s => decide (s < n ∧ f s = k))) c := by
  unfold awkN
  have e : moG (jarT tu pi) (iF lo) (iF de) (liveT n fr to) (fun k s => decide (s < n ∧ f s = k)) 12 (fun _ => false) 0 = fun s => anyN (fun k => moK (jarT tu pi) (iF lo) (iF de) (liveT n fr to) (fun s => decide (s < n ∧ f s = k)) 12 (fun _ => false) 0 s) 4 := funext fun s => by
    rw [moG_eq (fun k j s _ _ h1 h2 => by
      have e1 := (of_decide_eq_true h1).2
      have e2 := (of_decide_eq_true h2).2
      omega), Bool.false_or]
  rw [e, cnt_any (p := fun k => moK (jarT tu pi) (iF lo) (iF de) (liveT n fr to) (fun s => decide (s < n ∧ f s = k)) 12 (fun _ => false) 0) (fun k j s _ _ _ h1 h2 => ?_)]
  · obtain ⟨d, hd⟩ : ∃ d, 4 = c + d := ⟨4 - c, by omega⟩
    rw [hd, sumW_more d (fun k h1 h2 => ?_)]
    · rfl
    · show cnt (moK (jarT tu pi) (iF lo) (iF de) (liveT n fr to) (fun s => decide (s < n ∧ f s = k)) 12 (fun _ => false) 0) 8 = 0
      rw [cnt_congr (q := fun _ => false) (fun s _ => moK_out 12 (decide_eq_false (fun w => by have := hf s w.1; omega)))]
      rfl
  · cases e1 : decide (s < n ∧ f s = k) with
    | false =>
      rw [moK_out 12 e1] at h1
      cases h1
    | true =>
      cases e2 : decide (s < n ∧ f s = j) with
      | false =>
        rw [moK_out 12 e2] at h2
        cases h2
      | true =>
        have e3 := (of_decide_eq_true e1).2
        have e4 := (of_decide_eq_true e2).2
        omega
theorem v_X1_weigh (hN : 70000 ≤ N) (M : MOk n pi lo de fr to of) (E : EarOk n tu pi lo de fr to lou dep ja sn) (hc : c ≤ 4) (hb : ∀ k, k < c → f4 k = nI (be k) ∧ be k ≤ 8) {f : Nat → Nat} (hf : okV c n f) (hma : ∀ s, s < n → ∀ m, m < n → ma s = nI m → f m = f s) {crews : Nat → Int32} (hcr : ∀ k, k < 4 → ∀ s, bt (crews k) s = decide (s < n ∧ f s = k)) {few : Int32} (hfew : few = -1 ∨ ∃ u, u ≤ 8 ∧ few = nI u) (best : Nat → Int32) {wk : Nat → Int32} (W : WkI n tu pi lo de fr to wk) :
    ∃ wk', WkI n tu pi lo de fr to wk' ∧ ((¬ LayOk n c be ma f ∧ F_X1_weigh N few best crews wk (nI c) f4 lou dep ja sn = some (few, best, wk')) ∨ (LayOk n c be ma f ∧ F_X1_weigh N few best crews wk (nI c) f4 lou dep ja sn = if few = -1 then some (nI (awkN n tu pi lo de fr to f), va_cpy crews best 0 0 4, wk') else if few ≤ nI (awkN n tu pi lo de fr to f) then some (few, best, wk') else some (nI (awkN n tu pi lo de fr to f), va_cpy crews best 0 0 4, wk'))) := by
  have h8 := M.1
  have hbt : ∀ k, k < 4 → bt (crews k) = fun s => decide (s < n ∧ f s = k) := fun k hk => funext (hcr k hk)
  have hcopy : ∀ x wk', F_X1_weigh_83 N crews (nI c) f4 lou dep ja sn N x best wk' 0 = some (x, va_cpy crews best 0 0 4, wk') := fun x wk' => by
    have h := lq4_run (body := fun self => B_X1_weigh_83 N crews (nI c) f4 lou dep ja sn self) (fun _ => x) (fun i => va_cpy crews best 0 0 i) (fun _ => wk') (fun i => nI i) 4 (some (x, va_cpy crews best 0 0 4, wk')) (fun self i hi => by
      show B_X1_weigh_83 N crews (nI c) f4 lou dep ja sn self _ _ _ _ = _
      unfold B_X1_weigh_83
      rw [if_neg (nge4 hi), bnd_of (atI_in hi (by omega)), wr_nI hi (by omega), nm_def, i_s, cpy_s0]) (fun self => by
      show B_X1_weigh_83 N crews (nI c) f4 lou dep ja sn self _ _ _ _ = _
      unfold B_X1_weigh_83
      rw [if_pos (ge4 (Nat.le_refl _) (by omega))]) N (by omega)
    rw [cpy_0] at h
    exact h
  unfold F_X1_weigh
  have key : ∀ q g i wk, i + q = c → q < g → WkI n tu pi lo de fr to wk → (∀ k, k < i → cnt (fun s => decide (s < n ∧ f s = k)) 8 ≤ be k) →
      ∃ wk', WkI n tu pi lo de fr to wk' ∧ ((¬ LayOk n c be ma f ∧ F_X1_weigh_5 N crews (nI c) f4 lou dep ja sn g few best wk (nI (sumW (fun k => wkN n tu pi lo de fr to (fun s => decide (s < n ∧ f s = k))) i)) (nI i) = some (few, best, wk')) ∨ (LayOk n c be ma f ∧ F_X1_weigh_5 N crews (nI c) f4 lou dep ja sn g few best wk (nI (sumW (fun k => wkN n tu pi lo de fr to (fun s => decide (s < n ∧ f s = k))) i)) (nI i) = if few = -1 then some (nI (awkN n tu pi lo de fr to f), va_cpy crews best 0 0 4, wk') else if few ≤ nI (awkN n tu pi lo de fr to f) then some (few, best, wk') else some (nI (awkN n tu pi lo de fr to f), va_cpy crews best 0 0 4, wk'))) := by
    intro q
    induction q with
    | zero =>
      intro g i wk hi hg W hk
      obtain ⟨g', rfl⟩ : ∃ g', g = g' + 1 := ⟨g - 1, by omega⟩
      have e : i = c := by omega
      subst e
      refine ⟨wk, W, Or.inr ⟨⟨hf, hk, hma⟩, ?_⟩⟩
      show B_X1_weigh_5 N crews (nI i) f4 lou dep ja sn (F_X1_weigh_5 N crews (nI i) f4 lou dep ja sn g') few best wk _ (nI i) = _
      unfold B_X1_weigh_5
      rw [if_pos (i_le (Nat.le_refl _) (by omega)), hcopy, ← awk_sum hc hf]
    | succ q ih =>
      intro g i wk hi hg W hk
      obtain ⟨g', rfl⟩ : ∃ g', g = g' + 1 := ⟨g - 1, by omega⟩
      have hbi := hb i (by omega)
      have hcn := cnt_le (p := fun s => decide (s < n ∧ f s = i)) 8
      have hsub : ∀ s, bt (crews i) s = true → s < n := fun s h => by
        rw [hcr i (by omega)] at h
        exact (of_decide_eq_true h).1
      rw [show F_X1_weigh_5 N crews (nI c) f4 lou dep ja sn (g' + 1) few best wk (nI (sumW (fun k => wkN n tu pi lo de fr to (fun s => decide (s < n ∧ f s = k))) i)) (nI i) = B_X1_weigh_5 N crews (nI c) f4 lou dep ja sn (F_X1_weigh_5 N crews (nI c) f4 lou dep ja sn g') few best wk (nI (sumW (fun k => wkN n tu pi lo de fr to (fun s => decide (s < n ∧ f s = k))) i)) (nI i) from rfl]
      unfold B_X1_weigh_5
      rw [if_neg (i_nle (by omega) (by omega)), bnd_of (atI_in (by omega) (by omega)), bnd_of (v_J6_bitCount (fun j hj => by
        cases e : bt (crews i) j with
        | false => rfl
        | true => have := hsub j e; omega)), bnd_of (atI_in (by omega) (by omega)), hbi.1, hbt i (by omega)]
      by_cases w : cnt (fun s => decide (s < n ∧ f s = i)) 8 ≤ be i
      · obtain ⟨wk', z1, z2⟩ := v_X1_wakersOf hN M E W hsub
        rw [hbt i (by omega)] at z1
        rw [if_pos (i_le w (by omega)), bnd_of z1, nm_def, nm_def, i_s, nI_add]
        exact ih g' (i + 1) wk' (by omega) (by omega) z2 (fun k hk2 => by
          by_cases e : k = i
          · rw [e]; exact w
          · exact hk k (by omega))
      · rw [if_neg (i_nle (by omega) (by omega))]
        exact ⟨wk, W, Or.inl ⟨fun l => w (l.2.1 i (by omega)), rfl⟩⟩
  exact key c N 0 wk (by omega) (by omega) W (fun k hk => absurd hk (by omega))
end Weigh

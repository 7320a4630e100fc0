theorem fr_1 : ∀ a, a < 9 → ∀ b, b < 10 → nI a - nI b - 1 = nI a - nI (b + 1) := by decide +kernel
theorem fr_neg : ∀ a, a < 9 → ∀ b, b < 10 → (nI a - nI b < 0 ↔ a < b) := by decide +kernel
theorem dn_1 : ∀ a, a < 10 → nI a + (-1) = nI a - 1 := by decide +kernel
theorem dn_m : ∀ a, a < 10 → (-1 : Int32) < nI a := by decide +kernel
theorem dn_0 : nI 0 - 1 < 0 := by decide
def cF (n : Nat) (f : Nat → Nat) (p k : Nat) : Nat := cnt (fun s => decide (p ≤ s ∧ s < n ∧ f s = k)) 8
def okF (n c : Nat) (be : Nat → Nat) (ma : Nat → Int32) (f : Nat → Nat) (p : Nat) : Prop := (∀ k, k < c → cF n f p k ≤ be k) ∧ ∀ s, p ≤ s → s < n → ∀ m, m < n → ma s = nI m → s < m → f m = f s
def MaG (n : Nat) (ma : Nat → Int32) : Prop := ∀ s, s < n → ma s = -1 ∨ ∃ m, m < n ∧ m ≠ s ∧ ma s = nI m ∧ ma m = nI s
section Lays
variable {n c : Nat} {be : Nat → Nat} {ma : Nat → Int32} {N : Nat}
theorem cF_s {f : Nat → Nat} (h8 : n ≤ 8) {p : Nat} (hp : p < n) (k : Nat) : cF n f p k = cF n f (p + 1) k + if f p = k then 1 else 0 := by
  have h := cnt_upd (p := fun s => decide (p + 1 ≤ s ∧ s < n ∧ f s = k)) (p' := fun s => decide (p ≤ s ∧ s < n ∧ f s = k)) (s := p) (fun t ht => by
    show decide (p ≤ t ∧ t < n ∧ f t = k) = decide (p + 1 ≤ t ∧ t < n ∧ f t = k)
    by_cases q : p + 1 ≤ t ∧ t < n ∧ f t = k
    · rw [decide_eq_true q, decide_eq_true ⟨by omega, q.2⟩]
    · rw [decide_eq_false q, decide_eq_false (fun w => q ⟨by omega, w.2⟩)]) (n := 8) (by omega)
  have h1 : (if (decide (p + 1 ≤ p ∧ p < n ∧ f p = k)) = true then 1 else 0) = 0 := if_neg (by rw [decide_eq_false (fun w => absurd w.1 (by omega))]; decide)
  have h2 : (if (decide (p ≤ p ∧ p < n ∧ f p = k)) = true then 1 else 0) = if f p = k then 1 else 0 := by
    by_cases e : f p = k
    · rw [if_pos e, if_pos (decide_eq_true ⟨Nat.le_refl _, hp, e⟩)]
    · rw [if_neg e, if_neg (by rw [decide_eq_false (fun w => e w.2.2)]; decide)]
  have h3 : cnt (fun s => decide (p ≤ s ∧ s < n ∧ f s = k)) 8 + (if (decide (p + 1 ≤ p ∧ p < n ∧ f p = k)) = true then 1 else 0) = cnt (fun s => decide (p + 1 ≤ s ∧ s < n ∧ f s = k)) 8 + (if (decide (p ≤ p ∧ p < n ∧ f p = k)) = true then 1 else 0) := h
  rw [h1, h2] at h3
  exact h3
theorem cF_le {f : Nat → Nat} {p k : Nat} : cF n f p k ≤ 8 := cnt_le 8
theorem okF_s {f : Nat → Nat} (h8 : n ≤ 8) {p : Nat} (hp : p < n) (hf : f p < c) : okF n c be ma f p ↔ okF n c be ma f (p + 1) ∧ cF n f p (f p) ≤ be (f p) ∧ ∀ m, m < n → ma p = nI m → p < m → f m = f p := by
  constructor
  · rintro ⟨h1, h2⟩
    refine ⟨⟨fun k hk => ?_, fun s hs => h2 s (by omega)⟩, h1 _ hf, h2 p (Nat.le_refl _) hp⟩
    have := h1 k hk
    rw [cF_s h8 hp] at this
    omega
  · rintro ⟨⟨h1, h2⟩, h3, h4⟩
    refine ⟨fun k hk => ?_, fun s hs hn => ?_⟩
    · by_cases e : f p = k
      · rw [← e]; exact h3
      · rw [cF_s h8 hp, if_neg e]
        exact h1 k hk
    · by_cases e : s = p
      · rw [e]; exact h4
      · exact h2 s (by omega) hn
theorem okF_n {f : Nat → Nat} : okF n c be ma f n := by
  refine ⟨fun k hk => ?_, fun s h1 h2 => absurd h2 (by omega)⟩
  have e : cF n f n k = cnt (fun _ => false) 8 := cnt_congr (fun s _ => decide_eq_false (fun w => by omega))
  rw [e]
  exact Nat.zero_le _
theorem okF_0 (h8 : n ≤ 8) (hm : MaG n ma) {f : Nat → Nat} (hf : okV c n f) : okF n c be ma f 0 ↔ LayOk n c be ma f := by
  have e : ∀ k, cF n f 0 k = cnt (fun s => decide (s < n ∧ f s = k)) 8 := fun k => cnt_congr (fun s _ => by
    show decide (0 ≤ s ∧ s < n ∧ f s = k) = decide (s < n ∧ f s = k)
    by_cases q : s < n ∧ f s = k
    · rw [decide_eq_true q, decide_eq_true ⟨Nat.zero_le _, q⟩]
    · rw [decide_eq_false q, decide_eq_false (fun w => q w.2)])
  constructor
  · rintro ⟨h1, h2⟩
    refine ⟨hf, fun k hk => by rw [← e k]; exact h1 k hk, fun s hs m hmn q => ?_⟩
    rcases hm s hs with z | ⟨m', z1, z2, z3, z4⟩
    · exact absurd (z.symm.trans q) (i_m1' (by omega))
    · have e2 : m' = m := i_inj (by omega) (by omega) (z3.symm.trans q)
      subst e2
      by_cases w : s < m'
      · exact h2 s (Nat.zero_le _) hs m' hmn q w
      · exact (h2 m' (Nat.zero_le _) hmn s hs z4 (by omega)).symm
  · rintro ⟨h1, h2, h3⟩
    exact ⟨fun k hk => by rw [e k]; exact h2 k hk, fun s _ hs m hmn q _ => h3 s hs m hmn q⟩
theorem cod_div {f : Nat → Nat} {p : Nat} (hf : f p < c) : cod c f (p + 1) / c = cod c f p ∧ cod c f (p + 1) % c = f p := by
  have hc : 0 < c := by omega
  rw [cod, Nat.mul_comm]
  exact ⟨by rw [Nat.mul_add_div hc, Nat.div_eq_of_lt hf, Nat.add_zero], by rw [Nat.mul_add_mod, Nat.mod_eq_of_lt hf]⟩
theorem pow_sm (hc : c ≤ 4) (h8 : n ≤ 8) : c ^ n ≤ 65536 := Nat.le_trans (Nat.pow_le_pow_left hc n) (Nat.pow_le_pow_right (n := 4) (by decide) h8)
theorem v_X9_lays (hN : 70000 ≤ N) (hc : c ≤ 4) (h8 : n ≤ 8) {g5 : Nat → Int32} (hb : ∀ k, k < c → g5 k = nI (be k) ∧ be k ≤ 8) (hm : MaG n ma) {f : Nat → Nat} (hf : okV c n f) (tr0 fr0 : Nat → Int32) :
    ∃ (b : Bool) (tr' fr' : Nat → Int32), F_X9_lays N (nI c) (nI n) g5 ma tr0 fr0 (nI (cod c f n)) = some (b2i b, tr', fr') ∧ (b = true ↔ LayOk n c be ma f) ∧ (∀ s, s < n → tr' s = nI (f s)) ∧ tr' 8 = 0 ∧ tr' 9 = 0 := by
  have hcod : ∀ p, p ≤ n → cod c f p < 2147483648 := fun p hp => by
    have h1 := cod_lt (c := c) (v := f) (n := p) (fun i hi => hf i (by omega))
    have h2 := pow_sm (n := p) hc (by omega)
    omega
  have key : ∀ p, p ≤ n → ∀ (g : Nat) (tr fr : Nat → Int32) (b : Bool), p < g → (∀ s, p ≤ s → s < n → tr s = nI (f s)) → (∀ k, k < c → fr k = nI (be k) - nI (cF n f p k)) → (b = true ↔ okF n c be ma f p) →
      ∃ (b' : Bool) (tr' fr' : Nat → Int32), F_X9_lays_40 N (nI c) (nI n) g5 ma (nI (cod c f n)) g tr fr (nI (cod c f p)) (b2i b) (nI p - 1) = some (b2i b', tr', fr') ∧ (b' = true ↔ LayOk n c be ma f) ∧ (∀ s, s < n → tr' s = nI (f s)) ∧ tr' 8 = 0 ∧ tr' 9 = 0 := by
    intro p
    induction p with
    | zero =>
      intro _ g tr fr b hg htr hfr hok
      obtain ⟨g', rfl⟩ : ∃ g', g = g' + 1 := ⟨g - 1, by omega⟩
      refine ⟨b, upd (upd tr 8 0) 9 0, fr, ?_, hok.trans (okF_0 h8 hm hf), fun s hs => ?_, ?_, pk_us⟩
      · show B_X9_lays_40 N (nI c) (nI n) g5 ma (nI (cod c f n)) (F_X9_lays_40 N (nI c) (nI n) g5 ma (nI (cod c f n)) g') tr fr (nI (cod c f 0)) (b2i b) (nI 0 - 1) = _
        unfold B_X9_lays_40
        rw [if_pos dn_0, show (8 : Int32) = nI 8 from rfl, wr_nI (by omega) (by omega), show (9 : Int32) = nI 9 from rfl, wr_nI (by omega) (by omega)]
        cases b with
        | true => exact bg_1 _
        | false => exact bg_0 _
      · rw [pk_un (by omega), pk_un (by omega)]
        exact htr s (Nat.zero_le _) hs
      · rw [pk_un (by omega), pk_us]
    | succ p ih =>
      intro hp g tr fr b hg htr hfr hok
      obtain ⟨g', rfl⟩ : ∃ g', g = g' + 1 := ⟨g - 1, by omega⟩
      have hfp := hf p (by omega)
      have hfr1 := hfr (f p) hfp
      have hbf := hb (f p) hfp
      have hcl := cF_le (n := n) (f := f) (p := p + 1) (k := f p)
      have hs := okF_s (be := be) (ma := ma) h8 (show p < n by omega) hfp
      have hcs := cF_s (f := f) h8 (show p < n by omega)
      obtain ⟨d1, d2⟩ := cod_div (c := c) hfp
      have next : ∀ b', (b' = true ↔ okF n c be ma f p) → ∃ (b'' : Bool) (tr' fr' : Nat → Int32), F_X9_lays_40 N (nI c) (nI n) g5 ma (nI (cod c f n)) g' (upd tr p (nI (f p))) (upd fr (f p) (nI (be (f p)) - nI (cF n f (p + 1) (f p) + 1))) (nI (cod c f p)) (b2i b') (nI p - 1) = some (b2i b'', tr', fr') ∧ (b'' = true ↔ LayOk n c be ma f) ∧ (∀ s, s < n → tr' s = nI (f s)) ∧ tr' 8 = 0 ∧ tr' 9 = 0 := fun b' hb' => ih (by omega) g' _ _ b' (by omega) (fun s h1 h2 => by
          by_cases e : s = p
          · rw [e, pk_us]
          · rw [pk_un e]
            exact htr s (by omega) h2) (fun k hk => by
          by_cases e : k = f p
          · rw [e, pk_us, hcs, if_pos rfl]
          · rw [pk_un e, hfr k hk, hcs, if_neg (fun w => e w.symm)]
            rfl) hb'
      have bd := hcod (p + 1) hp
      rw [show F_X9_lays_40 N (nI c) (nI n) g5 ma (nI (cod c f n)) (g' + 1) tr fr (nI (cod c f (p + 1))) (b2i b) (nI (p + 1) - 1) = B_X9_lays_40 N (nI c) (nI n) g5 ma (nI (cod c f n)) (F_X9_lays_40 N (nI c) (nI n) g5 ma (nI (cod c f n)) g') tr fr (nI (cod c f (p + 1))) (b2i b) (nI (p + 1) - 1) from rfl]
      unfold B_X9_lays_40
      rw [nI_pred, if_neg (i_n0 (by omega)), nz_ok (ne0 (i := c) (by omega) (by omega)), i_mod bd (by omega) (by omega), d2, nm_def, nz_ok (ne0 (i := c) (by omega) (by omega)), pk_div bd (by omega) (by omega), d1, nm_def, wr_nI (by omega) (by omega), rd_nI (by omega) (by omega), hfr1, fr_1 _ (by omega) _ (by omega), nm_def, wr_nI (by omega) (by omega), dn_1 p (by omega)]
      simp only [nm_def]
      cases b with
      | false =>
        rw [if_pos (show b2i false = 0 from rfl)]
        exact next false ⟨fun w => (by cases w), fun w => by have := hok.mpr (hs.mp w).1; cases this⟩
      | true =>
        have ok1 := hok.mp rfl
        rw [if_neg (show ¬ b2i true = 0 by decide), rd_nI (by omega) (by omega), pk_us]
        by_cases q : nI (be (f p)) - nI (cF n f (p + 1) (f p) + 1) < 0
        · rw [if_pos q]
          have q2 := (fr_neg _ (by omega) _ (by omega)).mp q
          refine next false ⟨fun w => (by cases w), fun w => ?_⟩
          have h3 := (hs.mp w).2.1
          rw [hcs, if_pos rfl] at h3
          omega
        · rw [if_neg q]
          have q2 : cF n f p (f p) ≤ be (f p) := by
            rw [hcs, if_pos rfl]
            rcases Nat.lt_or_ge (be (f p)) (cF n f (p + 1) (f p) + 1) with w | w
            · exact absurd ((fr_neg _ (by omega) _ (by omega)).mpr w) q
            · exact w
          rw [rd_nI (by omega) (by omega)]
          rcases hm p (by omega) with z | ⟨m, z1, z2, z3, z4⟩
          · rw [z, if_pos (dn_m p (by omega))]
            exact next true ⟨fun _ => hs.mpr ⟨ok1, q2, fun m hm e => absurd (z.symm.trans e) (i_m1' (by omega))⟩, fun _ => rfl⟩
          · have only : ∀ m', m' < n → ma p = nI m' → m' = m := fun m' h1 h2 => i_inj (by omega) (by omega) (h2.symm.trans z3)
            rw [z3]
            by_cases w : m < p
            · rw [if_pos (i_lt w (by omega))]
              exact next true ⟨fun _ => hs.mpr ⟨ok1, q2, fun m' h1 h2 h3 => by have := only m' h1 h2; omega⟩, fun _ => rfl⟩
            · have htm : upd tr p (nI (f p)) m = nI (f m) := by
                rw [pk_un z2]
                exact htr m (by omega) z1
              have hfm := hf m z1
              rw [if_neg (i_nlt (by omega) (by omega)), rd_nI (by omega) (by omega), z3, rd_nI (by omega) (by omega), htm]
              by_cases y : f m = f p
              · rw [y, if_pos rfl]
                exact next true ⟨fun _ => hs.mpr ⟨ok1, q2, fun m' h1 h2 _ => by rw [only m' h1 h2]; exact y⟩, fun _ => rfl⟩
              · rw [if_neg (i_ne (by omega) (by omega) y)]
                exact next false ⟨fun w => (by cases w), fun w2 => absurd ((hs.mp w2).2.2 m z1 z3 (by omega)) y⟩
  unfold F_X9_lays
  obtain ⟨b', tr', fr', k1, k2⟩ := key n (Nat.le_refl _) N tr0 (va_cpy g5 fr0 0 0 c) true (by omega) (fun s h1 h2 => absurd h2 (by omega)) (fun k hk => by
    rw [cpy_in0 hk, (hb k hk).1]
    have e : cF n f n k = 0 := by
      have e : cF n f n k = cnt (fun _ => false) 8 := cnt_congr (fun s _ => decide_eq_false (fun w => by omega))
      rw [e]; rfl
    rw [e]
    exact (by decide +kernel : ∀ a, a < 9 → nI a = nI a - nI 0) _ (by have := (hb k hk).2; omega)) ⟨fun _ => okF_n, fun _ => rfl⟩
  refine ⟨b', tr', fr', ?_, k2⟩
  have h := lq3_run (body := fun self => B_X9_lays_2 N (nI c) (nI n) g5 ma (nI (cod c f n)) self) (fun _ => tr0) (fun i => va_cpy g5 fr0 0 0 i) (fun i => nI i) c (some (b2i b', tr', fr')) (fun self i hi => by
    show B_X9_lays_2 N (nI c) (nI n) g5 ma (nI (cod c f n)) self _ _ _ = _
    unfold B_X9_lays_2
    rw [if_neg (i_nle hi (by omega)), rd_nI (by omega) (by omega), wr_nI (by omega) (by omega), nm_def, i_s, cpy_s0]) (fun self => by
    show B_X9_lays_2 N (nI c) (nI n) g5 ma (nI (cod c f n)) self _ _ _ = _
    unfold B_X9_lays_2
    rw [if_pos (i_le (Nat.le_refl _) (by omega)), nm_def]
    exact k1) N (by omega)
  rw [cpy_0] at h
  exact h
end Lays

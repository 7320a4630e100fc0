theorem xor_xor (x s : Int32) : (x ^^^ s) ^^^ s = x := b_ext (fun i _ => by rw [b_xor, b_xor]; cases bt x i <;> cases bt s i <;> rfl)
theorem go_dec : ∀ k, k < 4 → ∀ j, j < 4 → ∀ z, z < 4 → k ≠ j → (if z = j then decide (k = j) ^^ true else if z = k then decide (k = k) ^^ true else decide (k = z)) = decide (j = z) ∧ (if z = j then decide (j = j) ^^ true else if z = k then decide (j = k) ^^ true else decide (j = z)) = decide (k = z) := by decide +kernel
section Go
variable {n c : Nat} {be : Nat → Nat} {row crews : Nat → Int32}
theorem innM_at {r : Nat → Int32} {t x k : Nat} (ht : t < n) (e : r t = nI x) (hx : x < 4) (hk : k < 4) : innM n r k t = decide (x = k) := by
  unfold innM
  by_cases z : x = k
  · rw [decide_eq_true z, decide_eq_true (p := t < n ∧ r t = nI k) ⟨ht, by rw [e, z]⟩]
  · rw [decide_eq_false z, decide_eq_false (p := t < n ∧ r t = nI k) (fun w => i_ne (by omega) (by omega) z (e.symm.trans w.2))]
theorem innM_same {r r' : Nat → Int32} {t k : Nat} (e : r t = r' t) : innM n r k t = innM n r' k t := by
  unfold innM
  rw [e]
def goF (crews : Nat → Int32) (k j : Nat) (s : Int32) : Nat → Int32 := upd (upd crews k (crews k ^^^ s)) j (crews j ^^^ s)
theorem goF_go {k j : Nat} (h : k ≠ j) (s : Int32) : goF (goF crews k j s) k j s = crews := by
  funext i
  unfold goF
  by_cases e1 : i = j
  · subst e1
    rw [pk_us, pk_us, xor_xor]
  · rw [pk_un e1]
    by_cases e2 : i = k
    · subst e2
      rw [pk_us, pk_un h, pk_us, xor_xor]
    · rw [pk_un e2, pk_un e1, pk_un e2]
theorem bt_goF {k j z : Nat} (s : Int32) (t : Nat) : bt (goF crews k j s z) t = if z = j then bt (crews j) t ^^ bt s t else if z = k then bt (crews k) t ^^ bt s t else bt (crews z) t := by
  unfold goF
  by_cases e1 : z = j
  · rw [if_pos e1, e1, pk_us, b_xor]
  · rw [if_neg e1, pk_un e1]
    by_cases e2 : z = k
    · rw [if_pos e2, e2, pk_us, b_xor]
    · rw [if_neg e2, pk_un e2]
theorem go_ok (h8 : n ≤ 8) (hc : Cr n row crews) {p : Nat} (hl : legM n c be row p) {k j : Nat} (hk : k < 4) (hj : j < 4) (hkj : k ≠ j) {s : Int32} (ek : row (mA p) = nI k) (hs : (p < 100 ∧ j = mB p ∧ ∀ t, bt s t = decide (t = mA p)) ∨ (100 ≤ p ∧ row (mB p) = nI j ∧ ∀ t, bt s t = (decide (t = mA p) || decide (t = mB p)))) : Cr n (mvR row p) (goF crews k j s) := fun z hz t => by
  have d := go_dec k hk j hj z hz hkj
  have hA := hl.1
  rw [bt_goF]
  rcases hs with ⟨w1, w2, w3⟩ | ⟨w1, w2, w3⟩
  · have em : mvR row p = upd row (mA p) (nI j) := by unfold mvR; rw [if_neg (by omega), w2]
    rw [em, w3 t]
    by_cases e : t = mA p
    · rw [e, decide_eq_true rfl, hc j hj, hc k hk, hc z hz, innM_at hA ek hk hj, innM_at hA ek hk hk, innM_at hA ek hk hz, innM_at hA (pk_us) hj hz]
      exact d.1
    · rw [decide_eq_false e, Bool.xor_false, Bool.xor_false, innM_same (pk_un e), ← hc z hz]
      by_cases e1 : z = j
      · rw [if_pos e1, e1]
      · rw [if_neg e1]
        by_cases e2 : z = k
        · rw [if_pos e2, e2]
        · rw [if_neg e2]
  · have hl2 : mA p < mB p ∧ mB p < n := by
      rcases hl.2.2 with l | l
      · exact ⟨l.2.1, l.2.2.1⟩
      · omega
    have em : mvR row p = upd (upd row (mA p) (nI j)) (mB p) (nI k) := by unfold mvR; rw [if_pos w1, w2, ek]
    rw [em, w3 t]
    by_cases e : t = mA p
    · have e2 : mA p ≠ mB p := by omega
      rw [e, decide_eq_true rfl, Bool.true_or, hc j hj, hc k hk, hc z hz, innM_at hA ek hk hj, innM_at hA ek hk hk, innM_at hA ek hk hz, innM_at hA ((pk_un e2).trans pk_us) hj hz]
      exact d.1
    · rw [decide_eq_false e, Bool.false_or]
      by_cases e2 : t = mB p
      · rw [e2, decide_eq_true rfl, hc j hj, hc k hk, hc z hz, innM_at hl2.2 w2 hj hj, innM_at hl2.2 w2 hj hk, innM_at hl2.2 w2 hj hz, innM_at hl2.2 (pk_us) hk hz]
        exact d.2
      · rw [decide_eq_false e2, Bool.xor_false, Bool.xor_false, innM_same ((pk_un e2).trans (pk_un e)), ← hc z hz]
        by_cases e1 : z = j
        · rw [if_pos e1, e1]
        · rw [if_neg e1]
          by_cases e2 : z = k
          · rw [if_pos e2, e2]
          · rw [if_neg e2]
theorem v_X5_go {lf rt st : Nat → Int32} {i : Nat} (hi : i < 52) {k j : Nat} (hk : k < 4) (hj : j < 4) (hkj : k ≠ j) (el : lf i = nI k) (er : rt i = nI j) (crews : Nat → Int32) : F_X5_go 4 lf rt st crews (nI i) = some (goF crews k j (st i)) := by
  unfold F_X5_go
  rw [bnd_of (atI_in hi (by omega)), bnd_of (atI_in hi (by omega)), el, er, bnd_of (atI_in hk (by omega)), bnd_of (atI_in hi (by omega)), bnd_of (layI_in hk (by omega)), bnd_of (atI_in hj (by omega)), bnd_of (atI_in hi (by omega)), bnd_of (layI_in hj (by omega)), pk_un (fun e => hkj e.symm)]
  rfl
/-! a step there and back -/
theorem go_both (h8 : n ≤ 8) (hc : Cr n row crews) {p : Nat} (hl : legM n c be row p) {lf rt st : Nat → Int32} {i : Nat} (hi : i < 52) (g : GoI row p (lf i) (rt i) (st i)) : ∃ crews', F_X5_go 4 lf rt st crews (nI i) = some crews' ∧ F_X5_go 4 lf rt st crews' (nI i) = some crews ∧ Cr n (mvR row p) crews' := by
  obtain ⟨k, j, hk, hj, hkj, el, er, ek, hs⟩ := g
  refine ⟨_, v_X5_go hi hk hj hkj el er crews, ?_, go_ok h8 hc hl hk hj hkj ek hs⟩
  rw [v_X5_go hi hk hj hkj el er, goF_go hkj]
end Go
section Quiet
variable {n c : Nat} {be : Nat → Nat} {tu : Int32} {pi lo de fr to : Nat → Nat} {of f4 lou dep ja sn : Nat → Int32} {aw : Int32} {h N : Nat}
def quK (n : Nat) (tu : Int32) (pi lo de fr to : Nat → Nat) (aw : Int32) (h : Nat) (q : Nat → Bool) : Prop := ∀ s, moK (jarT tu pi) (iF lo) (iF de) (liveT n fr to) q (12 - h) (bt aw) h s = bt aw s
def QuI (n : Nat) (tu : Int32) (pi lo de fr to : Nat → Nat) (aw : Int32) (h : Nat) (qu : Nat → Int32) : Prop := ∀ m, m < 256 → qu m = 0 ∨ (qu m = 1 ∧ quK n tu pi lo de fr to aw h (bt (nI m))) ∨ (qu m = 2 ∧ ¬ quK n tu pi lo de fr to aw h (bt (nI m)))
theorem qu_all {row crews : Nat → Int32} (hc : Cr n row crews) : quM n tu pi lo de fr to aw h row ↔ ∀ k, k < 4 → quK n tu pi lo de fr to aw h (bt (crews k)) := by
  have hg := fun s => moG_eq (jar := jarT tu pi) (lo := iF lo) (de := iF de) (live := liveT n fr to) (inn := innM n row) (fun k j s hk hj h1 h2 => Cr_dis hc hk hj h1 h2) (12 - h) (bt aw) h s
  constructor
  · intro hq k hk s
    rw [Cr_bt hc hk]
    cases e : bt aw s with
    | true => exact moK_le (12 - h) e
    | false =>
      have h1 := hq s
      rw [hg s, e, Bool.false_or] at h1
      cases e2 : moK (jarT tu pi) (iF lo) (iF de) (liveT n fr to) (innM n row k) (12 - h) (bt aw) h s with
      | false => rfl
      | true =>
        rw [anyN_iff.mpr ⟨k, hk, e2⟩] at h1
        cases h1
  · intro hq s
    rw [hg s]
    cases e : bt aw s with
    | true => rfl
    | false =>
      rw [Bool.false_or]
      refine anyN_no (fun k hk => ?_)
      have h1 := hq k hk s
      rw [Cr_bt hc hk, e] at h1
      exact h1
theorem v_X4_isQuiet (hN : 70000 ≤ N) (M : MOk n pi lo de fr to of) (E : EarOk n tu pi lo de fr to lou dep ja sn) {row crews : Nat → Int32} (hc : Cr n row crews) (hh : h ≤ 12) {qu : Nat → Int32} (W : QuI n tu pi lo de fr to aw h qu) :
    ∃ (b : Bool) (qu' : Nat → Int32), F_X4_isQuiet N crews qu lou dep ja sn aw (nI h) = some (b2i b, qu') ∧ (b = true ↔ quM n tu pi lo de fr to aw h row) ∧ QuI n tu pi lo de fr to aw h qu' := by
  have h8 := M.1
  rw [qu_all hc]
  unfold F_X4_isQuiet
  have key : ∀ (m g i : Nat) (qu : Nat → Int32), i + m = 4 → m < g → QuI n tu pi lo de fr to aw h qu → (∀ k, k < i → quK n tu pi lo de fr to aw h (bt (crews k))) →
      ∃ (b : Bool) (qu' : Nat → Int32), F_X4_isQuiet_2 N crews lou dep ja sn aw (nI h) g qu (nI i) = some (b2i b, qu') ∧ (b = true ↔ ∀ k, k < 4 → quK n tu pi lo de fr to aw h (bt (crews k))) ∧ QuI n tu pi lo de fr to aw h qu' := by
    intro m
    induction m with
    | zero =>
      intro g i qu hi hg W hq
      obtain ⟨g', rfl⟩ : ∃ g', g = g' + 1 := ⟨g - 1, by omega⟩
      refine ⟨true, qu, ?_, ⟨fun _ k hk => hq k (by omega), fun _ => rfl⟩, W⟩
      show B_X4_isQuiet_2 N crews lou dep ja sn aw (nI h) (F_X4_isQuiet_2 N crews lou dep ja sn aw (nI h) g') qu (nI i) = _
      unfold B_X4_isQuiet_2
      rw [if_pos (ge4 (by omega) (by omega))]
      rfl
    | succ m ih =>
      intro g i qu hi hg W hq
      obtain ⟨g', rfl⟩ : ∃ g', g = g' + 1 := ⟨g - 1, by omega⟩
      have hlt : ∀ t, bt (crews i) t = true → t < n := fun t ht => Cr_lt hc (by omega) ht
      obtain ⟨x, hx, ex⟩ := small8 (x := crews i) (fun t ht => by
        cases e : bt (crews i) t with
        | false => rfl
        | true => have := hlt t e; omega)
      rw [show F_X4_isQuiet_2 N crews lou dep ja sn aw (nI h) (g' + 1) qu (nI i) = B_X4_isQuiet_2 N crews lou dep ja sn aw (nI h) (F_X4_isQuiet_2 N crews lou dep ja sn aw (nI h) g') qu (nI i) from rfl]
      have fin : ∀ qu, QuI n tu pi lo de fr to aw h qu → qu x ≠ 0 → ∃ (b : Bool) (qu' : Nat → Int32), B_X4_isQuiet_78 N crews lou dep ja sn aw (nI h) (F_X4_isQuiet_2 N crews lou dep ja sn aw (nI h) g') qu (nI i) (nI x) = some (b2i b, qu') ∧ (b = true ↔ ∀ k, k < 4 → quK n tu pi lo de fr to aw h (bt (crews k))) ∧ QuI n tu pi lo de fr to aw h qu' := fun qu W h0 => by
        unfold B_X4_isQuiet_78
        rw [bnd_of (atI_in hx (by omega))]
        rcases W x hx with z | ⟨z, z2⟩ | ⟨z, z2⟩
        · exact absurd z h0
        · rw [z, if_neg (by decide), nm_def, i_s]
          exact ih g' (i + 1) qu (by omega) (by omega) W (fun k hk => by
            by_cases e : k = i
            · rw [e, ex]; exact z2
            · exact hq k (by omega))
        · rw [z, if_pos rfl]
          exact ⟨false, qu, rfl, ⟨fun e => absurd e (by decide), fun e => absurd (by have := e i (by omega); rw [ex] at this; exact this) z2⟩, W⟩
      unfold B_X4_isQuiet_2
      rw [if_neg (nge4 (by omega)), rd_nI (by omega) (by omega), ex, bnd_of (atI_in hx (by omega))]
      by_cases q0 : qu x = 0
      · have hlt' : ∀ t, bt (nI x) t = true → t < n := fun t ht => hlt t (by rw [ex]; exact ht)
        have hde : ∀ s, s < 8 → bt (nI x) s = true → 0 ≤ dep s := fun s _ hb => by
          have hs := hlt' s hb
          rw [E.2.1 s hs]
          exact i_le (a := 0) (Nat.zero_le _) (by have := (M.2 s hs).2.2.2.2.2.2.2.1; omega)
        have hbt : ∀ s, bt (moC lou dep ja sn (nI x) (12 - h) aw h) s = moK (jarT tu pi) (iF lo) (iF de) (liveT n fr to) (bt (nI x)) (12 - h) (bt aw) h s := fun s => ear_moC h8 E hlt' (12 - h) aw h (by omega) s
        rw [if_pos q0, bnd_of (v_X0_morningOfOne hN hde hh)]
        have W2 : ∀ v : Int32, (v = 1 ∧ quK n tu pi lo de fr to aw h (bt (nI x))) ∨ (v = 2 ∧ ¬ quK n tu pi lo de fr to aw h (bt (nI x))) → QuI n tu pi lo de fr to aw h (upd qu x v) := fun v hv m' hm' => by
          by_cases e : m' = x
          · rw [e, pk_us]; exact Or.inr hv
          · rw [pk_un e]; exact W m' hm'
        by_cases z : moC lou dep ja sn (nI x) (12 - h) aw h = aw
        · have hk : quK n tu pi lo de fr to aw h (bt (nI x)) := fun s => by rw [← hbt s, z]
          rw [if_pos z]
          unfold B_X4_isQuiet_57 B_X4_isQuiet_75
          rw [if_neg (by decide), bnd_of (layI_in hx (by omega))]
          exact fin _ (W2 1 (Or.inl ⟨rfl, hk⟩)) (by rw [pk_us]; decide)
        · have hk : ¬ quK n tu pi lo de fr to aw h (bt (nI x)) := fun w => z (b_ext (fun s _ => by rw [hbt s]; exact w s))
          rw [if_neg z]
          unfold B_X4_isQuiet_57 B_X4_isQuiet_75
          rw [if_pos rfl, bnd_of (layI_in hx (by omega))]
          exact fin _ (W2 2 (Or.inr ⟨rfl, hk⟩)) (by rw [pk_us]; decide)
      · rw [if_neg q0]
        exact fin qu W q0
  exact key 4 N 0 qu (by omega) (by omega) W (fun k hk => absurd hk (by omega))
/-! the first quiet step of a list -/
theorem v_X4_firstQuiet (hN : 70000 ≤ N) (M : MOk n pi lo de fr to of) (E : EarOk n tu pi lo de fr to lou dep ja sn) {row crews : Nat → Int32} (hc : Cr n row crews) (hh : h ≤ 12) {L : Nat} {P : Nat → Nat} {cd lf rt st : Nat → Int32} (S : StL n c be row L P cd lf rt st 200) (hL : L ≤ 52) {qu : Nat → Int32} (W : QuI n tu pi lo de fr to aw h qu) :
    ∃ qu', QuI n tu pi lo de fr to aw h qu' ∧ ((∃ i, i < L ∧ Fst (Mv1 n c be (quM n tu pi lo de fr to aw h) row) (P i) ∧ F_X4_firstQuiet N crews qu (nI L) lf rt st lou dep ja sn aw (nI h) = some (nI i, crews, qu')) ∨ (Non (Mv1 n c be (quM n tu pi lo de fr to aw h) row) ∧ F_X4_firstQuiet N crews qu (nI L) lf rt st lou dep ja sn aw (nI h) = some (-1, crews, qu'))) := by
  have h8 := M.1
  unfold F_X4_firstQuiet
  have key : ∀ (m g i : Nat) (qu : Nat → Int32), i + m = L → m < g → QuI n tu pi lo de fr to aw h qu → (∀ j, j < i → ¬ quM n tu pi lo de fr to aw h (mvR row (P j))) →
      ∃ qu', QuI n tu pi lo de fr to aw h qu' ∧ ((∃ i', i' < L ∧ Fst (Mv1 n c be (quM n tu pi lo de fr to aw h) row) (P i') ∧ F_X4_firstQuiet_3 N (nI L) lf rt st lou dep ja sn aw (nI h) g crews qu (nI i) = some (nI i', crews, qu')) ∨ (Non (Mv1 n c be (quM n tu pi lo de fr to aw h) row) ∧ F_X4_firstQuiet_3 N (nI L) lf rt st lou dep ja sn aw (nI h) g crews qu (nI i) = some (-1, crews, qu'))) := by
    intro m
    induction m with
    | zero =>
      intro g i qu hi hg W hq
      obtain ⟨g', rfl⟩ : ∃ g', g = g' + 1 := ⟨g - 1, by omega⟩
      refine ⟨qu, W, Or.inr ⟨fun q hq2 hm => ?_, ?_⟩⟩
      · obtain ⟨j, hj, ej⟩ := S.2.2 q hq2 hm.1
        exact hq j (by omega) (by rw [ej]; exact hm.2)
      · show B_X4_firstQuiet_3 N (nI L) lf rt st lou dep ja sn aw (nI h) (F_X4_firstQuiet_3 N (nI L) lf rt st lou dep ja sn aw (nI h) g') crews qu (nI i) = _
        unfold B_X4_firstQuiet_3
        rw [if_pos (i_le (by omega) (by omega))]
    | succ m ih =>
      intro g i qu hi hg W hq
      obtain ⟨g', rfl⟩ : ∃ g', g = g' + 1 := ⟨g - 1, by omega⟩
      obtain ⟨s1, s2, s3, s4⟩ := S.1 i (by omega)
      obtain ⟨crews', g1, g2, g3⟩ := go_both h8 hc s2 (by omega) s4
      obtain ⟨b, qu', q1, q2, q3⟩ := v_X4_isQuiet hN M E g3 hh W
      rw [show F_X4_firstQuiet_3 N (nI L) lf rt st lou dep ja sn aw (nI h) (g' + 1) crews qu (nI i) = B_X4_firstQuiet_3 N (nI L) lf rt st lou dep ja sn aw (nI h) (F_X4_firstQuiet_3 N (nI L) lf rt st lou dep ja sn aw (nI h) g') crews qu (nI i) from rfl]
      unfold B_X4_firstQuiet_3
      rw [if_neg (i_nle (by omega) (by omega)), bnd_of g1, bnd_of q1, bnd_of g2]
      cases b with
      | true =>
        rw [if_neg (show ¬ (b2i true, qu').1 = 0 from (by decide : ¬ b2i true = 0))]
        refine ⟨qu', q3, Or.inl ⟨i, by omega, ⟨s1, ⟨s2, q2.mp rfl⟩, fun q hq2 hm => ?_⟩, rfl⟩⟩
        obtain ⟨j, hj, ej⟩ := S.2.2 q (by omega) hm.1
        have hji : j < i := by
          rcases Nat.lt_or_ge j i with w | w
          · exact w
          · rcases Nat.lt_or_ge i j with w2 | w2
            · have := S.2.1 i j w2 hj
              omega
            · have : i = j := by omega
              subst this
              omega
        exact hq j hji (by rw [ej]; exact hm.2)
      | false =>
        rw [if_pos (show (b2i false, qu').1 = 0 from rfl), nm_def, i_s]
        exact ih g' (i + 1) qu' (by omega) (by omega) q3 (fun j hj => by
          by_cases e : j = i
          · rw [e]; exact fun w => by have := q2.mpr w; cases this
          · exact hq j (by omega))
  exact key L N 0 qu (by omega) (by omega) W (fun j hj => absurd hj (by omega))
end Quiet

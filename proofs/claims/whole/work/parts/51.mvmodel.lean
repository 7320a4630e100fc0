def quM (n : Nat) (tu : Int32) (pi lo de fr to : Nat → Nat) (aw : Int32) (h : Nat) (row : Nat → Int32) : Prop := ∀ s, moG (jarT tu pi) (iF lo) (iF de) (liveT n fr to) (innM n row) (12 - h) (bt aw) h s = bt aw s
def Fst (P : Nat → Prop) (p : Nat) : Prop := p < 200 ∧ P p ∧ ∀ q, q < p → ¬ P q
def Non (P : Nat → Prop) : Prop := ∀ q, q < 200 → ¬ P q
/-! the fewest moves: none, one, two or not at all -/
def Mv1 (n c : Nat) (be : Nat → Nat) (Q : (Nat → Int32) → Prop) (row : Nat → Int32) (p : Nat) : Prop := legM n c be row p ∧ Q (mvR row p)
def Mv2 (n c : Nat) (be : Nat → Nat) (Q : (Nat → Int32) → Prop) (row : Nat → Int32) (p : Nat) : Prop := legM n c be row p ∧ ∃ q, q < 200 ∧ Mv1 n c be Q (mvR row p) q
def MvS (n c : Nat) (be : Nat → Nat) (Q : (Nat → Int32) → Prop) (row : Nat → Int32) (many : Int32) (k : Nat → Int32) : Prop :=
  (many = 0 ∧ Q row) ∨ (many = 1 ∧ ¬ Q row ∧ ∃ a, Fst (Mv1 n c be Q row) a ∧ k 0 = nI a) ∨ (many = 2 ∧ ¬ Q row ∧ Non (Mv1 n c be Q row) ∧ ∃ a b, Fst (Mv2 n c be Q row) a ∧ Fst (Mv1 n c be Q (mvR row a)) b ∧ k 0 = nI a ∧ k 1 = nI b) ∨ (many = -1 ∧ ¬ Q row ∧ Non (Mv1 n c be Q row) ∧ Non (Mv2 n c be Q row))
theorem fst_one {P : Nat → Prop} {a b : Nat} (h1 : Fst P a) (h2 : Fst P b) : a = b := by
  rcases Nat.lt_trichotomy a b with q | q | q
  · exact absurd h1.2.1 (h2.2.2 a q)
  · exact q
  · exact absurd h2.2.1 (h1.2.2 b q)
theorem fst_non {P : Nat → Prop} {a : Nat} (h1 : Fst P a) (h2 : Non P) : False := h2 a h1.1 h1.2.1
theorem MvS_one {n c : Nat} {be : Nat → Nat} {Q : (Nat → Int32) → Prop} {row : Nat → Int32} {m1 m2 : Int32} {k1 k2 : Nat → Int32} (h1 : MvS n c be Q row m1 k1) (h2 : MvS n c be Q row m2 k2) : m1 = m2 ∧ ((m1 = 0) ∨ (m1 = 1 ∧ k1 0 = k2 0) ∨ (m1 = 2 ∧ k1 0 = k2 0 ∧ k1 1 = k2 1) ∨ m1 = -1) := by
  rcases h1 with ⟨a1, a2⟩ | ⟨a1, a2, a, a3, a4⟩ | ⟨a1, a2, a3, a, b, a4, a5, a6, a7⟩ | ⟨a1, a2, a3, a4⟩
  · rcases h2 with ⟨b1, b2⟩ | ⟨b1, b2, _⟩ | ⟨b1, b2, _⟩ | ⟨b1, b2, _⟩
    · exact ⟨a1.trans b1.symm, Or.inl a1⟩
    · exact absurd a2 b2
    · exact absurd a2 b2
    · exact absurd a2 b2
  · rcases h2 with ⟨b1, b2⟩ | ⟨b1, b2, b, b3, b4⟩ | ⟨b1, b2, b3, _⟩ | ⟨b1, b2, b3, _⟩
    · exact absurd b2 a2
    · refine ⟨a1.trans b1.symm, Or.inr (Or.inl ⟨a1, ?_⟩)⟩
      rw [a4, b4, fst_one a3 b3]
    · exact (fst_non a3 b3).elim
    · exact (fst_non a3 b3).elim
  · rcases h2 with ⟨b1, b2⟩ | ⟨b1, b2, b, b3, b4⟩ | ⟨b1, b2, b3, a', b', b4, b5, b6, b7⟩ | ⟨b1, b2, b3, b4⟩
    · exact absurd b2 a2
    · exact (fst_non b3 a3).elim
    · have e := fst_one a4 b4
      subst e
      refine ⟨a1.trans b1.symm, Or.inr (Or.inr (Or.inl ⟨a1, by rw [a6, b6], by rw [a7, b7, fst_one a5 b5]⟩))⟩
    · exact (fst_non a4 b4).elim
  · rcases h2 with ⟨b1, b2⟩ | ⟨b1, b2, b, b3, b4⟩ | ⟨b1, b2, b3, a', b', b4, b5, b6, b7⟩ | ⟨b1, b2, b3, b4⟩
    · exact absurd b2 a2
    · exact (fst_non b3 a3).elim
    · exact (fst_non b4 a4).elim
    · exact ⟨a1.trans b1.symm, Or.inr (Or.inr (Or.inr a1))⟩
section MvM
variable {n c : Nat} {be : Nat → Nat} {tu : Int32} {pi lo de fr to : Nat → Nat} {of g5 : Nat → Int32} {N : Nat}
theorem qu_congr {aw : Int32} {h : Nat} {r r' : Nat → Int32} (e : ∀ s, s < n → r s = r' s) : quM n tu pi lo de fr to aw h r ↔ quM n tu pi lo de fr to aw h r' := by
  unfold quM
  rw [innM_congr e]
theorem Rw_ca (hc : c ≤ 4) {row : Nat → Int32} (R : RwOk n c be row) : CaOk n row := fun s hs => (R.1 s hs).imp id (fun ⟨k, hk, e⟩ => ⟨k, by omega, e⟩)
theorem v_X9_nobody (hN : 70000 ≤ N) (M : MOk n pi lo de fr to of) {now tr : Nat → Int32} (hca : CaOk n tr) (e8 : tr 8 = now 8) {h : Nat} (hh : h ≤ 12) (e9 : tr 9 = nI h) :
    (quM n tu pi lo de fr to (now 8) h tr ∧ ∃ t, F_X9_nobodyWakes N (nI n) tu of now tr = some (1, t)) ∨ (¬ quM n tu pi lo de fr to (now 8) h tr ∧ ∃ t, F_X9_nobodyWakes N (nI n) tu of now tr = some (0, t)) := by
  obtain ⟨c', e1, e2⟩ := v_X9_morning hN M (tu := tu) hca hh e9
  rw [e8] at e2
  have h8 : rd 10 now 8 = fun k : Int32 → Option (Int32 × (Nat → Int32)) => k (now 8) := funext fun k => rd_nI (i := 8) (by omega) (by omega)
  unfold F_X9_nobodyWakes
  rw [bnd_of e1, h8]
  by_cases q : c' 8 = now 8
  · refine Or.inl ⟨fun s => by rw [← e2 s, q], c', ?_⟩
    exact if_pos q
  · refine Or.inr ⟨fun hq => q (b_ext (fun i _ => by rw [e2 i]; exact hq i)), c', ?_⟩
    exact if_neg q
theorem v_lay_112 (hN : 70000 ≤ N) (M : MOk n pi lo de fr to of) (hc : c ≤ 4) (hb : ∀ k, k < c → g5 k = nI (be k) ∧ be k ≤ 8) {now : Nat → Int32} (R : RwOk n c be now) {h : Nat} (hh : h ≤ 12) (e9 : now 9 = nI h) {p : Nat} (hp : p < 200) (l : legM n c be now p) (k84 : Int32 → (Nat → Int32) → (Nat → Int32) → Int32 → Option (Int32 × (Nat → Int32) × (Nat → Int32))) (mm : Int32) (mo : Nat → Int32) :
    ∀ (m g q : Nat) (tr : Nat → Int32), q + m = 200 → m < g → (∀ j, j < q → ¬ Mv1 n c be (quM n tu pi lo de fr to (now 8) h) (mvR now p) j) →
      (∃ b, Fst (Mv1 n c be (quM n tu pi lo de fr to (now 8) h) (mvR now p)) b ∧ ∃ t, F_X9_layMoves_112 N (nI c) (nI n) tu g5 of now k84 g mm tr mo (nI p) 1 (nI q) = some (2, t, upd (upd mo 0 (nI p)) 1 (nI b))) ∨ (Non (Mv1 n c be (quM n tu pi lo de fr to (now 8) h) (mvR now p)) ∧ ∃ t, F_X9_layMoves_112 N (nI c) (nI n) tu g5 of now k84 g mm tr mo (nI p) 1 (nI q) = k84 mm t mo (nI (p + 1))) := by
  have h8 := M.1
  intro m
  induction m with
  | zero =>
    intro g q tr hq hg hn
    obtain ⟨g', rfl⟩ : ∃ g', g = g' + 1 := ⟨g - 1, by omega⟩
    have e : q = 200 := by omega
    subst e
    refine Or.inr ⟨hn, tr, ?_⟩
    show B_X9_layMoves_112 N (nI c) (nI n) tu g5 of now k84 (F_X9_layMoves_112 N (nI c) (nI n) tu g5 of now k84 g') mm tr mo (nI p) 1 (nI 200) = _
    unfold B_X9_layMoves_112
    rw [if_pos (ge200 (Nat.le_refl _) (by omega)), nm_def, i_s]
  | succ m ih =>
    intro g q tr hq hg hn
    obtain ⟨g', rfl⟩ : ∃ g', g = g' + 1 := ⟨g - 1, by omega⟩
    have next : ∀ t, ¬ Mv1 n c be (quM n tu pi lo de fr to (now 8) h) (mvR now p) q → _ := fun t hnq => ih g' (q + 1) t (by omega) (by omega) (fun j hj => by
      by_cases e : j = q
      · rw [e]; exact hnq
      · exact hn j (by omega))
    rw [show F_X9_layMoves_112 N (nI c) (nI n) tu g5 of now k84 (g' + 1) mm tr mo (nI p) 1 (nI q) = B_X9_layMoves_112 N (nI c) (nI n) tu g5 of now k84 (F_X9_layMoves_112 N (nI c) (nI n) tu g5 of now k84 g') mm tr mo (nI p) 1 (nI q) from rfl]
    unfold B_X9_layMoves_112
    have hcp : F_X9_copy N 10 10 now tr 0 0 = some (va_cpy now tr 0 0 10) := v_X9_copy hN (f := 0) (t := 0) (by omega) (by omega) (by omega) (by omega)
    have ag : ∀ s, s < 10 → va_cpy now tr 0 0 10 s = now s := fun s hs => cpy_in0 hs
    have R1 : RwOk n c be (va_cpy now tr 0 0 10) := Rw_congr (fun s hs => (ag s (by omega)).symm) R
    have l1 : legM n c be (va_cpy now tr 0 0 10) p := leg_congr (fun s hs => (ag s (by omega)).symm) l
    have ag1 : ∀ s, s < 10 → mvR (va_cpy now tr 0 0 10) p s = mvR now p s := mv_congr 10 ag (by unfold mA; omega) (fun _ => by unfold mB; omega)
    have R2 := mv_ok h8 hc R1 l1
    rcases v_X9_move hN h8 hc hb R1 hp with ⟨_, e1⟩ | ⟨nl, _⟩
    case inr => exact absurd l1 nl
    rw [if_neg (nge200 (by omega)), if_neg (show ¬ (1 : Int32) = 0 by decide), bnd_of hcp, bnd_of e1]
    rcases v_X9_move hN h8 hc hb R2 (show q < 200 by omega) with ⟨l2, e2⟩ | ⟨nl, e2⟩
    · have l2' : legM n c be (mvR now p) q := leg_congr (fun s hs => ag1 s (by omega)) l2
      have ag2 : ∀ s, s < 10 → mvR (mvR (va_cpy now tr 0 0 10) p) q s = mvR (mvR now p) q s := mv_congr 10 ag1 (by unfold mA; omega) (fun _ => by unfold mB; omega)
      have R3 := mv_ok h8 hc R2 l2
      have o8 : mvR (mvR (va_cpy now tr 0 0 10) p) q 8 = now 8 := by rw [mv_out l2 h8, mv_out l1 h8, ag 8 (by omega)]
      have o9 : mvR (mvR (va_cpy now tr 0 0 10) p) q 9 = nI h := by rw [mv_out l2 (by omega), mv_out l1 (by omega), ag 9 (by omega), e9]
      rw [bnd_of e2, if_neg (show ¬ (1, mvR (mvR (va_cpy now tr 0 0 10) p) q).1 = (0 : Int32) from (by decide : ¬ (1 : Int32) = 0))]
      rcases v_X9_nobody hN M (tu := tu) (now := now) (Rw_ca hc R3) o8 hh o9 with ⟨hq1, t, e3⟩ | ⟨hq1, t, e3⟩
      · have w0 : ∀ k : (Nat → Int32) → Option (Int32 × (Nat → Int32) × (Nat → Int32)), wr 2 mo 0 (nI p) k = k (upd mo 0 (nI p)) := fun k => wr_nI (i := 0) (by omega) (by omega)
        have w1 : ∀ k : (Nat → Int32) → Option (Int32 × (Nat → Int32) × (Nat → Int32)), wr 2 (upd mo 0 (nI p)) 1 (nI q) k = k (upd (upd mo 0 (nI p)) 1 (nI q)) := fun k => wr_nI (i := 1) (by omega) (by omega)
        rw [bnd_of e3, if_neg (show ¬ (1, t).1 = (0 : Int32) from (by decide : ¬ (1 : Int32) = 0)), w0, w1]
        exact Or.inl ⟨q, ⟨by omega, ⟨l2', (qu_congr (fun s hs => ag2 s (by omega))).mp hq1⟩, hn⟩, t, rfl⟩
      · rw [bnd_of e3, if_pos (show (0, t).1 = (0 : Int32) from rfl), nm_def, i_s]
        exact next t (fun hm => hq1 ((qu_congr (fun s hs => ag2 s (by omega))).mpr hm.2))
    · rw [bnd_of e2, if_pos (show (0, mvR (va_cpy now tr 0 0 10) p).1 = (0 : Int32) from rfl), nm_def, i_s]
      exact next _ (fun hm => nl (leg_congr (fun s hs => (ag1 s (by omega)).symm) hm.1))
theorem v_lay_84 (hN : 70000 ≤ N) (M : MOk n pi lo de fr to of) (hc : c ≤ 4) (hb : ∀ k, k < c → g5 k = nI (be k) ∧ be k ≤ 8) {now : Nat → Int32} (R : RwOk n c be now) {h : Nat} (hh : h ≤ 12) (e9 : now 9 = nI h) (mm : Int32) (mo : Nat → Int32) :
    ∀ (m g p : Nat) (tr : Nat → Int32), p + m = 200 → m < g → (∀ j, j < p → ¬ Mv2 n c be (quM n tu pi lo de fr to (now 8) h) now j) →
      (∃ a b, Fst (Mv2 n c be (quM n tu pi lo de fr to (now 8) h) now) a ∧ Fst (Mv1 n c be (quM n tu pi lo de fr to (now 8) h) (mvR now a)) b ∧ ∃ t, F_X9_layMoves_84 N (nI c) (nI n) tu g5 of now g mm tr mo (nI p) = some (2, t, upd (upd mo 0 (nI a)) 1 (nI b))) ∨ (Non (Mv2 n c be (quM n tu pi lo de fr to (now 8) h) now) ∧ ∃ t, F_X9_layMoves_84 N (nI c) (nI n) tu g5 of now g mm tr mo (nI p) = some (-1, t, mo)) := by
  have h8 := M.1
  intro m
  induction m with
  | zero =>
    intro g p tr hq hg hn
    obtain ⟨g', rfl⟩ : ∃ g', g = g' + 1 := ⟨g - 1, by omega⟩
    have e : p = 200 := by omega
    subst e
    refine Or.inr ⟨hn, tr, ?_⟩
    show B_X9_layMoves_84 N (nI c) (nI n) tu g5 of now (F_X9_layMoves_84 N (nI c) (nI n) tu g5 of now g') mm tr mo (nI 200) = _
    unfold B_X9_layMoves_84
    rw [if_pos (ge200 (Nat.le_refl _) (by omega))]
  | succ m ih =>
    intro g p tr hq hg hn
    obtain ⟨g', rfl⟩ : ∃ g', g = g' + 1 := ⟨g - 1, by omega⟩
    have next : ∀ t, ¬ Mv2 n c be (quM n tu pi lo de fr to (now 8) h) now p → _ := fun t hnq => ih g' (p + 1) t (by omega) (by omega) (fun j hj => by
      by_cases e : j = p
      · rw [e]; exact hnq
      · exact hn j (by omega))
    rw [show F_X9_layMoves_84 N (nI c) (nI n) tu g5 of now (g' + 1) mm tr mo (nI p) = B_X9_layMoves_84 N (nI c) (nI n) tu g5 of now (F_X9_layMoves_84 N (nI c) (nI n) tu g5 of now g') mm tr mo (nI p) from rfl]
    unfold B_X9_layMoves_84
    have hcp : F_X9_copy N 10 10 now tr 0 0 = some (va_cpy now tr 0 0 10) := v_X9_copy hN (f := 0) (t := 0) (by omega) (by omega) (by omega) (by omega)
    have ag : ∀ s, s < 10 → va_cpy now tr 0 0 10 s = now s := fun s hs => cpy_in0 hs
    have R1 : RwOk n c be (va_cpy now tr 0 0 10) := Rw_congr (fun s hs => (ag s (by omega)).symm) R
    rw [if_neg (nge200 (by omega)), bnd_of hcp]
    rcases v_X9_move hN h8 hc hb R1 (show p < 200 by omega) with ⟨l1, e1⟩ | ⟨nl, e1⟩
    · have l : legM n c be now p := leg_congr (fun s hs => ag s (by omega)) l1
      rw [bnd_of e1]
      rcases v_lay_112 hN M hc hb R hh e9 (show p < 200 by omega) l (F_X9_layMoves_84 N (nI c) (nI n) tu g5 of now g') mm mo (tu := tu) 200 N 0 (mvR (va_cpy now tr 0 0 10) p) (by omega) (by omega) (fun j hj => absurd hj (by omega)) with ⟨b, hb1, t, e2⟩ | ⟨hno, t, e2⟩
      · exact Or.inl ⟨p, b, ⟨by omega, ⟨l, b, hb1.1, hb1.2.1⟩, hn⟩, hb1, t, e2⟩
      · have e2 : F_X9_layMoves_112 N (nI c) (nI n) tu g5 of now (F_X9_layMoves_84 N (nI c) (nI n) tu g5 of now g') N mm (mvR (va_cpy now tr 0 0 10) p) mo (nI p) 1 0 = _ := e2
        show (∃ a b, _ ∧ _ ∧ ∃ t, F_X9_layMoves_112 N (nI c) (nI n) tu g5 of now (F_X9_layMoves_84 N (nI c) (nI n) tu g5 of now g') N mm (mvR (va_cpy now tr 0 0 10) p) mo (nI p) 1 0 = _) ∨ (_ ∧ ∃ t, F_X9_layMoves_112 N (nI c) (nI n) tu g5 of now (F_X9_layMoves_84 N (nI c) (nI n) tu g5 of now g') N mm (mvR (va_cpy now tr 0 0 10) p) mo (nI p) 1 0 = _)
        rw [e2]
        exact next t (fun ⟨_, q, hq1, hq2⟩ => hno q hq1 hq2)
    · rw [bnd_of e1]
      have nl' : ¬ legM n c be now p := fun l => nl (leg_congr (fun s hs => (ag s (by omega)).symm) l)
      have u : F_X9_layMoves_112 N (nI c) (nI n) tu g5 of now (F_X9_layMoves_84 N (nI c) (nI n) tu g5 of now g') N mm (va_cpy now tr 0 0 10) mo (nI p) 0 0 = F_X9_layMoves_84 N (nI c) (nI n) tu g5 of now g' mm (va_cpy now tr 0 0 10) mo (nI (p + 1)) := by
        obtain ⟨N', hN'⟩ : ∃ N', N = N' + 1 := ⟨N - 1, by omega⟩
        have u2 : ∀ K, K = N' + 1 → F_X9_layMoves_112 N (nI c) (nI n) tu g5 of now (F_X9_layMoves_84 N (nI c) (nI n) tu g5 of now g') K mm (va_cpy now tr 0 0 10) mo (nI p) 0 0 = F_X9_layMoves_84 N (nI c) (nI n) tu g5 of now g' mm (va_cpy now tr 0 0 10) mo (nI (p + 1)) := fun K hK => by
          subst hK
          show B_X9_layMoves_112 N (nI c) (nI n) tu g5 of now (F_X9_layMoves_84 N (nI c) (nI n) tu g5 of now g') (F_X9_layMoves_112 N (nI c) (nI n) tu g5 of now (F_X9_layMoves_84 N (nI c) (nI n) tu g5 of now g') N') mm (va_cpy now tr 0 0 10) mo (nI p) 0 0 = _
          unfold B_X9_layMoves_112
          rw [if_neg (show ¬ (200 : Int32) ≤ 0 by decide), if_pos rfl, nm_def, i_s]
        exact u2 N hN'
      show (∃ a b, _ ∧ _ ∧ ∃ t, F_X9_layMoves_112 N (nI c) (nI n) tu g5 of now (F_X9_layMoves_84 N (nI c) (nI n) tu g5 of now g') N mm (va_cpy now tr 0 0 10) mo (nI p) 0 0 = _) ∨ (_ ∧ ∃ t, F_X9_layMoves_112 N (nI c) (nI n) tu g5 of now (F_X9_layMoves_84 N (nI c) (nI n) tu g5 of now g') N mm (va_cpy now tr 0 0 10) mo (nI p) 0 0 = _)
      rw [u]
      exact next _ (fun hm => nl' hm.1)
theorem v_lay_28 (hN : 70000 ≤ N) (M : MOk n pi lo de fr to of) (hc : c ≤ 4) (hb : ∀ k, k < c → g5 k = nI (be k) ∧ be k ≤ 8) {now : Nat → Int32} (R : RwOk n c be now) {h : Nat} (hh : h ≤ 12) (e9 : now 9 = nI h) (mm : Int32) (mo : Nat → Int32) :
    ∀ (m g p : Nat) (tr : Nat → Int32), p + m = 200 → m < g → (∀ j, j < p → ¬ Mv1 n c be (quM n tu pi lo de fr to (now 8) h) now j) →
      (∃ a, Fst (Mv1 n c be (quM n tu pi lo de fr to (now 8) h) now) a ∧ ∃ t, F_X9_layMoves_28 N (nI c) (nI n) tu g5 of now g mm tr mo (nI p) = some (1, t, upd mo 0 (nI a))) ∨ (Non (Mv1 n c be (quM n tu pi lo de fr to (now 8) h) now) ∧ ∃ t, F_X9_layMoves_28 N (nI c) (nI n) tu g5 of now g mm tr mo (nI p) = F_X9_layMoves_84 N (nI c) (nI n) tu g5 of now N mm t mo 0) := by
  have h8 := M.1
  intro m
  induction m with
  | zero =>
    intro g p tr hq hg hn
    obtain ⟨g', rfl⟩ : ∃ g', g = g' + 1 := ⟨g - 1, by omega⟩
    have e : p = 200 := by omega
    subst e
    refine Or.inr ⟨hn, tr, ?_⟩
    show B_X9_layMoves_28 N (nI c) (nI n) tu g5 of now (F_X9_layMoves_28 N (nI c) (nI n) tu g5 of now g') mm tr mo (nI 200) = _
    unfold B_X9_layMoves_28
    rw [if_pos (ge200 (Nat.le_refl _) (by omega))]
  | succ m ih =>
    intro g p tr hq hg hn
    obtain ⟨g', rfl⟩ : ∃ g', g = g' + 1 := ⟨g - 1, by omega⟩
    have next : ∀ t, ¬ Mv1 n c be (quM n tu pi lo de fr to (now 8) h) now p → _ := fun t hnq => ih g' (p + 1) t (by omega) (by omega) (fun j hj => by
      by_cases e : j = p
      · rw [e]; exact hnq
      · exact hn j (by omega))
    rw [show F_X9_layMoves_28 N (nI c) (nI n) tu g5 of now (g' + 1) mm tr mo (nI p) = B_X9_layMoves_28 N (nI c) (nI n) tu g5 of now (F_X9_layMoves_28 N (nI c) (nI n) tu g5 of now g') mm tr mo (nI p) from rfl]
    unfold B_X9_layMoves_28
    have hcp : F_X9_copy N 10 10 now tr 0 0 = some (va_cpy now tr 0 0 10) := v_X9_copy hN (f := 0) (t := 0) (by omega) (by omega) (by omega) (by omega)
    have ag : ∀ s, s < 10 → va_cpy now tr 0 0 10 s = now s := fun s hs => cpy_in0 hs
    have R1 : RwOk n c be (va_cpy now tr 0 0 10) := Rw_congr (fun s hs => (ag s (by omega)).symm) R
    rw [if_neg (nge200 (by omega)), bnd_of hcp]
    rcases v_X9_move hN h8 hc hb R1 (show p < 200 by omega) with ⟨l1, e1⟩ | ⟨nl, e1⟩
    · have l : legM n c be now p := leg_congr (fun s hs => ag s (by omega)) l1
      have ag2 : ∀ s, s < 10 → mvR (va_cpy now tr 0 0 10) p s = mvR now p s := mv_congr 10 ag (by unfold mA; omega) (fun _ => by unfold mB; omega)
      have R3 := mv_ok h8 hc R1 l1
      have o8 : mvR (va_cpy now tr 0 0 10) p 8 = now 8 := by rw [mv_out l1 h8, ag 8 (by omega)]
      have o9 : mvR (va_cpy now tr 0 0 10) p 9 = nI h := by rw [mv_out l1 (by omega), ag 9 (by omega), e9]
      rw [bnd_of e1, if_neg (show ¬ (1, mvR (va_cpy now tr 0 0 10) p).1 = (0 : Int32) from (by decide : ¬ (1 : Int32) = 0))]
      rcases v_X9_nobody hN M (tu := tu) (now := now) (Rw_ca hc R3) o8 hh o9 with ⟨hq1, t, e3⟩ | ⟨hq1, t, e3⟩
      · have w0 : ∀ k : (Nat → Int32) → Option (Int32 × (Nat → Int32) × (Nat → Int32)), wr 2 mo 0 (nI p) k = k (upd mo 0 (nI p)) := fun k => wr_nI (i := 0) (by omega) (by omega)
        rw [bnd_of e3, if_neg (show ¬ (1, t).1 = (0 : Int32) from (by decide : ¬ (1 : Int32) = 0)), w0]
        exact Or.inl ⟨p, ⟨by omega, ⟨l, (qu_congr (fun s hs => ag2 s (by omega))).mp hq1⟩, hn⟩, t, rfl⟩
      · rw [bnd_of e3, if_pos (show (0, t).1 = (0 : Int32) from rfl), nm_def, i_s]
        exact next t (fun hm => hq1 ((qu_congr (fun s hs => ag2 s (by omega))).mpr hm.2))
    · rw [bnd_of e1, if_pos (show (0, va_cpy now tr 0 0 10).1 = (0 : Int32) from rfl), nm_def, i_s]
      exact next _ (fun hm => nl (leg_congr (fun s hs => (ag s (by omega)).symm) hm.1))
theorem v_X9_layMoves (hN : 70000 ≤ N) (M : MOk n pi lo de fr to of) (hc : c ≤ 4) (hb : ∀ k, k < c → g5 k = nI (be k) ∧ be k ≤ 8) {now : Nat → Int32} (R : RwOk n c be now) {h : Nat} (hh : h ≤ 12) (e9 : now 9 = nI h) (mm : Int32) (tr mo : Nat → Int32) :
    ∃ many t mo', F_X9_layMoves N (nI c) (nI n) tu mm g5 of now tr mo = some (many, t, mo') ∧ MvS n c be (quM n tu pi lo de fr to (now 8) h) now many mo' := by
  have h8 := M.1
  unfold F_X9_layMoves
  have hcp : F_X9_copy N 10 10 now tr 0 0 = some (va_cpy now tr 0 0 10) := v_X9_copy hN (f := 0) (t := 0) (by omega) (by omega) (by omega) (by omega)
  have ag : ∀ s, s < 10 → va_cpy now tr 0 0 10 s = now s := fun s hs => cpy_in0 hs
  have R1 : RwOk n c be (va_cpy now tr 0 0 10) := Rw_congr (fun s hs => (ag s (by omega)).symm) R
  rw [bnd_of hcp]
  rcases v_X9_nobody hN M (tu := tu) (now := now) (Rw_ca hc R1) (ag 8 (by omega)) hh (by rw [ag 9 (by omega), e9]) with ⟨hq, t, e1⟩ | ⟨hq, t, e1⟩
  · rw [bnd_of e1, if_neg (show ¬ (1, t).1 = (0 : Int32) from (by decide : ¬ (1 : Int32) = 0))]
    exact ⟨_, _, _, rfl, Or.inl ⟨rfl, (qu_congr (fun s hs => ag s (by omega))).mp hq⟩⟩
  · have hq' : ¬ quM n tu pi lo de fr to (now 8) h now := fun w => hq ((qu_congr (fun s hs => ag s (by omega))).mpr w)
    rw [bnd_of e1, if_pos (show (0, t).1 = (0 : Int32) from rfl)]
    rcases v_lay_28 hN M hc hb R hh e9 0 mo (tu := tu) 200 N 0 t (by omega) (by omega) (fun j hj => absurd hj (by omega)) with ⟨a, ha, t2, e2⟩ | ⟨ha, t2, e2⟩
    · exact ⟨_, _, _, e2, Or.inr (Or.inl ⟨rfl, hq', a, ha, pk_us⟩)⟩
    · rcases v_lay_84 hN M hc hb R hh e9 0 mo (tu := tu) 200 N 0 t2 (by omega) (by omega) (fun j hj => absurd hj (by omega)) with ⟨a, b, h1, h2, t3, e3⟩ | ⟨h1, t3, e3⟩
      · exact ⟨_, _, _, e2.trans e3, Or.inr (Or.inr (Or.inl ⟨rfl, hq', ha, a, b, h1, h2, by rw [pk_un (by omega), pk_us], pk_us⟩))⟩
      · exact ⟨_, _, _, e2.trans e3, Or.inr (Or.inr (Or.inr ⟨rfl, hq', ha, h1⟩))⟩
end MvM

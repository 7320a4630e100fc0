theorem i_mod {a d : Nat} (ha : a < 2147483648) (h0 : 0 < d) (hd : d < 2147483648) : nI a - nI a / nI d * nI d = nI (a % d) := pk_rem ha h0 hd
theorem i_m20 {a : Nat} (ha : a < 2147483648) : nI a - nI a / (20 : Int32) * (20 : Int32) = nI (a % 20) := pk_rem (d := 20) ha (by decide) (by decide)
theorem i_10 (p : Nat) : (10 : Int32) * nI p = nI (10 * p) := by rw [show (10 : Int32) = nI 10 from rfl, pk_mul]
theorem i_p10 (p : Nat) : nI p + (10 : Int32) = nI (p + 10) := by rw [show (10 : Int32) = nI 10 from rfl, nI_add]
theorem i_pred {p : Nat} (h : 0 < p) : nI p - (1 : Int32) = nI (p - 1) := by
  obtain ⟨q, rfl⟩ : ∃ q, p = q + 1 := ⟨p - 1, by omega⟩
  exact nI_pred q
theorem cnt_upd {p p' : Nat → Bool} {s : Nat} (h : ∀ t, t ≠ s → p' t = p t) : ∀ {n : Nat}, s < n → cnt p' n + (if p s = true then 1 else 0) = cnt p n + (if p' s = true then 1 else 0)
  | 0, hs => absurd hs (Nat.not_lt_zero s)
  | n + 1, hs => by
    rw [cnt, cnt]
    by_cases e : n = s
    · subst e
      rw [cnt_congr (q := p) (fun i hi => h i (by omega))]
      omega
    · have ih := cnt_upd h (n := n) (by omega)
      rw [h n e]
      omega
section Nights
variable {n c : Nat} {be : Nat → Nat}
theorem NtOk_congr (h8 : n ≤ 8) {crews crews' row row' : Nat → Int32} {aw hr aw' hr' : Int32} (h : NtOk n c be crews row aw hr) (h1 : ∀ k, k < 4 → crews' k = crews k) (h2 : ∀ s, s < 10 → row' s = row s) (h3 : aw' = aw) (h4 : hr' = hr) : NtOk n c be crews' row' aw' hr' := by
  obtain ⟨b1, b2, b3, b4, b5, x, b6, b7, b8⟩ := h
  have e : innM n row' = innM n row := innM_congr (fun s hs => h2 s (by omega))
  refine ⟨fun k hk s => by rw [h1 k hk, e]; exact b1 k hk s, fun s hs => by rw [h2 s (by omega)]; exact b2 s hs, fun k hk => by rw [e]; exact b3 k hk, by rw [h3, h2 8 (by omega)]; exact b4, by rw [h3]; exact b5, x, b6, by rw [h4]; exact b7, by rw [h2 9 (by omega)]; exact b8⟩
def shR (rows : Nat → Int32) (i : Nat) : Nat → Int32 := fun j => if j < i then rows (j + 10) else rows j
theorem shR_s (rows : Nat → Int32) (i : Nat) : upd (shR rows i) i (shR rows i (i + 10)) = shR rows (i + 1) := by
  funext j
  by_cases e : j = i
  · subst e
    rw [pk_us, shR, shR, if_neg (by omega), if_pos (by omega)]
  · rw [pk_un e, shR, shR]
    by_cases q : j < i
    · rw [if_pos q, if_pos (by omega)]
    · rw [if_neg q, if_neg (by omega)]
theorem sto_new {cells crews : Nat → Int32} {p : Nat} {aw hr sd : Int32} {k : Nat} (hk : k < 4) : stoC cells crews p aw hr sd (7 * p + k) = crews k := by
  unfold stoC
  rw [pk_un (by omega), pk_un (by omega), pk_un (by omega), pk_cpy_in (by omega) (by omega), Nat.zero_add, Nat.add_sub_cancel_left]
theorem sto_old {cells crews : Nat → Int32} {p : Nat} {aw hr sd : Int32} {j : Nat} (h : j < 7 * p ∨ 7 * p + 7 ≤ j) : stoC cells crews p aw hr sd j = cells j := by
  unfold stoC
  rw [pk_un (by omega), pk_un (by omega), pk_un (by omega), pk_cpy_out (by omega)]
theorem sto_4 {cells crews : Nat → Int32} {p : Nat} {aw hr sd : Int32} : stoC cells crews p aw hr sd (7 * p + 4) = aw := by
  unfold stoC
  rw [pk_un (by omega), pk_un (by omega), pk_us]
theorem sto_5 {cells crews : Nat → Int32} {p : Nat} {aw hr sd : Int32} : stoC cells crews p aw hr sd (7 * p + 5) = hr := by
  unfold stoC
  rw [pk_un (by omega), pk_us]
theorem sto_6 {cells crews : Nat → Int32} {p : Nat} {aw hr sd : Int32} : stoC cells crews p aw hr sd (7 * p + 6) = sd := pk_us
theorem rc_new (h8 : n ≤ 8) {crews row cells rows : Nat → Int32} {aw hr sd : Int32} (h : NtOk n c be crews row aw hr) (p q : Nat) : RcOk n c be (stoC cells crews p aw hr sd) p (va_cpy row rows 0 (10 * q) 10) q :=
  NtOk_congr h8 h (fun k hk => sto_new hk) (fun s hs => by rw [pk_cpy_in (by omega) (by omega), Nat.zero_add, Nat.add_sub_cancel_left]) sto_4 sto_5
theorem rc_old (h8 : n ≤ 8) {cells cells' rows rows' : Nat → Int32} {p q q' : Nat} (h : RcOk n c be cells p rows q) (h1 : ∀ j, j < 7 → cells' (7 * p + j) = cells (7 * p + j)) (h2 : ∀ s, s < 10 → rows' (10 * q' + s) = rows (10 * q + s)) : RcOk n c be cells' p rows' q' :=
  NtOk_congr h8 h (fun k hk => h1 k (by omega)) h2 (h1 4 (by omega)) (h1 5 (by omega))
theorem un_step {N : Nat} (hN : 70000 ≤ N) (h8 : n ≤ 8) {x1 x2 m16 : Int32} {cells rows crews row : Nat → Int32} {aw hr : Int32} (U : UnI n c be x1 x2 cells m16 rows) (Nt : NtOk n c be crews row aw hr) (sd : Int32) :
    ∃ x1' x2' cells' m' rows', F_X8_remember N 140 x1 x2 aw hr sd crews cells = some (x1', x2', cells') ∧ F_X9_note N m16 row rows = some (m', rows') ∧ UnI n c be x1' x2' cells' m' rows' := by
  obtain ⟨o, u, u1, u2, u3, u4, u5, u6⟩ := U
  unfold F_X8_remember F_X9_note
  rw [u3, u4, u5, nI_add, i_m20 (by omega), nm_def]
  have hm := Nat.mod_lt (o + u) (by decide : 0 < 20)
  rw [bnd_of (v_X3_store hN (by omega) (by omega) cells crews aw hr sd)]
  have hcp : ∀ (a : Nat → Int32) (v : Nat), v < 20 → F_X9_copy N 10 200 row a 0 (nI (10 * v)) = some (va_cpy row a 0 (10 * v) 10) := fun a v hv => v_X9_copy hN (f := 0) (by omega) (by omega) (by omega) (by omega)
  by_cases hu : u < 20
  · rw [if_neg (nge20 hu), i_s, nm_def, if_neg (ne20 (by omega) (by omega))]
    unfold B_X9_note_49
    rw [i_10, bnd_of (hcp rows u hu), i_s, nm_def]
    refine ⟨_, _, _, _, _, rfl, rfl, o, u + 1, u1, by omega, rfl, rfl, rfl, fun j hj => ?_⟩
    by_cases e : j = u
    · subst e
      exact rc_new h8 Nt _ _
    · refine rc_old h8 (u6 j (by omega)) (fun i hi => sto_old ?_) (fun s hs => pk_cpy_out (by omega))
      have h1 := Nat.mod_lt (o + j) (by decide : 0 < 20)
      have h2 : (o + j) % 20 ≠ (o + u) % 20 := by omega
      omega
  · have e : u = 20 := by omega
    subst e
    have emo : (o + 20) % 20 = o := by omega
    rw [if_pos (ge20 (Nat.le_refl _) (by omega)), i_s, i_m20 (by omega), nm_def, if_pos (show nI 20 = 20 from rfl), emo]
    have hl := lq3_run (body := fun self => B_X9_note_11 N row self) (fun _ => nI 20) (fun i => shR rows i) (fun i => nI i) 190 (some (nI 20, va_cpy row (shR rows 190) 0 190 10)) (fun self i hi => by
      show B_X9_note_11 N row self _ _ _ = _
      unfold B_X9_note_11
      rw [if_neg (nge190 hi), i_p10, rd_nI (by omega) (by omega), wr_nI (by omega) (by omega), nm_def, i_s, shR_s]) (fun self => by
      show B_X9_note_11 N row self _ _ _ = _
      unfold B_X9_note_11
      rw [if_pos (ge190 (Nat.le_refl _) (by omega)), i_pred (by omega), nm_def]
      unfold B_X9_note_49
      rw [i_10, bnd_of (hcp _ 19 (by omega)), nm_def]
      rfl) N (by omega)
    have e0 : shR rows 0 = rows := funext (fun j => if_neg (by omega))
    rw [e0] at hl
    refine ⟨_, _, _, _, _, rfl, hl, (o + 1) % 20, 20, Nat.mod_lt _ (by decide), Nat.le_refl _, rfl, rfl, rfl, fun j hj => ?_⟩
    by_cases e : j = 19
    · subst e
      have e2 : ((o + 1) % 20 + 19) % 20 = o := by omega
      rw [e2]
      exact rc_new h8 Nt o 19
    · have e2 : ((o + 1) % 20 + j) % 20 = (o + (j + 1)) % 20 := by omega
      rw [e2]
      refine rc_old h8 (u6 (j + 1) (by omega)) (fun i hi => sto_old ?_) (fun s hs => ?_)
      · have h1 := Nat.mod_lt (o + (j + 1)) (by decide : 0 < 20)
        have h2 : (o + (j + 1)) % 20 ≠ o := by omega
        omega
      · rw [pk_cpy_out (by omega), shR, if_pos (by omega)]
        congr 1
        omega
theorem NtOk_put (h8 : n ≤ 8) {crews row : Nat → Int32} {aw hr : Int32} (h : NtOk n c be crews row aw hr) {s : Nat} (hs : s < n) {v : Int32} (hv : v = -1 ∨ ∃ k, k < c ∧ v = nI k ∧ (row s = v ∨ cnt (innM n row k) 8 < be k)) (hc : c ≤ 4) :
    NtOk n c be (va_cpy (leadC crews s v) crews 0 0 4) (upd row s v) aw hr := by
  obtain ⟨b1, b2, b3, b4, b5, x, b6, b7, b8⟩ := h
  refine ⟨Cr_lead h8 b1 hs v, fun t ht => ?_, fun k hk => ?_, ?_, b5, x, b6, b7, ?_⟩
  · by_cases e : t = s
    · subst e
      rw [pk_us]
      exact hv.imp id (fun ⟨k, q1, q2, _⟩ => ⟨k, q1, q2⟩)
    · rw [pk_un e]
      exact b2 t ht
  · have hu := cnt_upd (p := innM n row k) (p' := innM n (upd row s v) k) (s := s) (fun t ht => by unfold innM; rw [pk_un ht]) (n := 8) (by omega)
    have hb := b3 k hk
    by_cases q : innM n (upd row s v) k s = true
    · rw [if_pos q] at hu
      have q2 := (of_decide_eq_true q).2
      rw [pk_us] at q2
      rcases hv with w | ⟨k', w1, w2, w3⟩
      · exact absurd (w.symm.trans q2) (i_m1' (by omega))
      · have ek : k' = k := i_inj (by omega) (by omega) (w2.symm.trans q2)
        subst ek
        rcases w3 with w3 | w3
        · rw [if_pos (show innM n row k' s = true from decide_eq_true ⟨hs, w3.trans w2⟩)] at hu
          omega
        · by_cases z : innM n row k' s = true
          · rw [if_pos z] at hu; omega
          · rw [if_neg z] at hu; omega
    · rw [if_neg q] at hu
      by_cases z : innM n row k s = true
      · rw [if_pos z] at hu; omega
      · rw [if_neg z] at hu; omega
  · rw [pk_un (by omega)]; exact b4
  · rw [pk_un (by omega)]; exact b8
theorem v_X8_isFull (h8 : n ≤ 8) {crews row berths : Nat → Int32} (hc : Cr n row crews) {k : Nat} (hk : k < 4) (hb : berths k = nI (be k)) (hb8 : be k ≤ 8) : F_X8_isFull 4 berths crews (nI k) = some (b2i (decide (be k ≤ cnt (innM n row k) 8))) := by
  unfold F_X8_isFull
  have hcn := cnt_le (p := innM n row k) 8
  rw [bnd_of (atI_in hk (by omega)), bnd_of (v_J6_bitCount (fun i hi => by rw [hc k hk i, innM, decide_eq_false (fun e => by omega)])), bnd_of (atI_in hk (by omega)), hb, Cr_bt hc hk]
  by_cases q : be k ≤ cnt (innM n row k) 8
  · rw [if_neg (i_nlt q (by omega)), decide_eq_true q]; rfl
  · rw [if_pos (i_lt (by omega) (by omega)), decide_eq_false q]; rfl
end Nights
section Ops
variable {si : Nat → Int32} {fa : Nat → Nat → Int32} {sm : Nat → Int32} {fm : Nat → Nat → Int32} {N : Nat}
theorem op_put (hN : 70000 ≤ N) (I : Inv si fa sm fm) (p1 p2 : Int32) : ∃ r x1 x2 f32 f36 m16 g8 g10, F_X8_put N 140 (si 1) (si 2) (si 11) (si 12) (si 21) (si 22) (si 23) (fa 4) (fa 32) (fa 36) p1 p2 = some (r, x1, x2, f32, f36) ∧ F_X9_put N (sm 12) (sm 13) (sm 16) (fm 5) (fm 8) (fm 10) p1 p2 = some (r, m16, g8, g10) ∧ Inv (upd (upd si 1 x1) 2 x2) (va_up (va_up fa 32 f32) 36 f36) (upd sm 16 m16) (va_up (va_up fm 8 g8) 10 g10) := by
  obtain ⟨hTx, hF, n, c, cp, tu, pi, lo, de, fr, to, be, hTr, hEa, hNt, hSd, hUn, hIm, hBo, hMk⟩ := id I
  obtain ⟨a1, a2, a3, M, T, a6, a7, a8, a9, a10, a11, a12, a13, a14, a15⟩ := id hTr
  have h8 := M.1
  have same : ∀ r : Int32, Inv (upd (upd si 1 (si 1)) 2 (si 2)) (va_up (va_up fa 32 (fa 32)) 36 (fa 36)) (upd sm 16 (sm 16)) (va_up (va_up fm 8 (fm 8)) 10 (fm 10)) := fun r => ⟨hTx, hF, n, c, cp, tu, pi, lo, de, fr, to, be, hTr, hEa, hNt, hSd, hUn, hIm, hBo, hMk⟩
  unfold F_X8_put F_X9_put
  rw [a6, a7, a10, a11]
  rcases no_one (c := n) (by omega) p1 with ⟨e1, e2⟩ | ⟨s, hs, rfl, e1, e2⟩
  · rw [bnd_of e1, bnd_of e2, if_neg (show ¬ (1 : Int32) = 0 by decide), if_pos (show (0 : Int32) = 0 from rfl)]
    exact ⟨_, _, _, _, _, _, _, _, rfl, rfl, same 0⟩
  rw [bnd_of e1, bnd_of e2, if_neg (show ¬ (1 : Int32) = 0 by decide), if_pos (show (0 : Int32) = 0 from rfl)]
  rcases no_car (c := c) (by omega) p2 with ⟨e1, e2⟩ | ⟨k, hk, rfl, e1, e2⟩
  · rw [bnd_of e1, bnd_of e2, if_neg (show ¬ (1 : Int32) = 0 by decide), if_pos (show (0 : Int32) = 0 from rfl)]
    exact ⟨_, _, _, _, _, _, _, _, rfl, rfl, same 0⟩
  rw [bnd_of e1, bnd_of e2, if_neg (show ¬ (1 : Int32) = 0 by decide), if_pos (show (0 : Int32) = 0 from rfl), bnd_of (v_X8_carOf hN h8 hNt.1 (NtOk_ca a1 hNt) hs), rd_nI (by omega) (by omega)]
  by_cases q : fm 8 s = nI k
  · rw [if_pos q, if_pos q]
    exact ⟨_, _, _, _, _, _, _, _, rfl, rfl, same 0⟩
  have hbk := a14 k hk
  have hbc := hNt.2.2.1 k hk
  have hcn := cnt_le (p := innM n (fm 8) k) 8
  rw [if_neg q, if_neg q, bnd_of (v_X8_isFull h8 hNt.1 (by omega) hbk.1 hbk.2.2.2), bnd_of (v_X9_thereIn hN (m := 10) (by omega) h8 (fm 8) (nI k)), ← ls_max h8 hNt.1 (by omega : k < 4), bnd_of (v_X9_bits hN _), Cr_bt hNt.1 (by omega : k < 4), rd_nI (by omega) (by omega), hbk.2.1]
  by_cases w : be k ≤ cnt (innM n (fm 8) k) 8
  · rw [decide_eq_true w, if_neg (show ¬ b2i true = 0 by decide), show cnt (innM n (fm 8) k) 8 = be k by omega, if_pos rfl]
    exact ⟨_, _, _, _, _, _, _, _, rfl, rfl, same 0⟩
  · rw [decide_eq_false w, if_pos (show b2i false = 0 from rfl), if_neg (i_ne (by omega) (by omega) (by omega))]
    obtain ⟨x1, x2, cells', m', rows', f1, f2, hU⟩ := un_step hN h8 hUn hNt (si 23)
    rw [bnd_of f1, bnd_of f2, bnd_of (v_X2_lead hN _ (by omega) _), rd_nI (by omega) (by omega), wr_nI (by omega) (by omega)]
    exact ⟨_, _, _, _, _, _, _, _, rfl, rfl, hTx, hF, n, c, cp, tu, pi, lo, de, fr, to, be, hTr, hEa, NtOk_put h8 hNt hs (Or.inr ⟨k, hk, rfl, Or.inr (by omega)⟩) a1, hSd, hU, hIm, hBo, hMk⟩
theorem op_off (hN : 70000 ≤ N) (I : Inv si fa sm fm) (p1 : Int32) : ∃ r x1 x2 f32 f36 m16 g8 g10, F_X8_off N 140 (si 1) (si 2) (si 12) (si 21) (si 22) (si 23) (fa 32) (fa 36) p1 = some (r, x1, x2, f32, f36) ∧ F_X9_off N (sm 13) (sm 16) (fm 8) (fm 10) p1 = some (r, m16, g8, g10) ∧ Inv (upd (upd si 1 x1) 2 x2) (va_up (va_up fa 32 f32) 36 f36) (upd sm 16 m16) (va_up (va_up fm 8 g8) 10 g10) := by
  obtain ⟨hTx, hF, n, c, cp, tu, pi, lo, de, fr, to, be, hTr, hEa, hNt, hSd, hUn, hIm, hBo, hMk⟩ := id I
  obtain ⟨a1, a2, a3, M, T, a6, a7, a8, a9, a10, a11, a12, a13, a14, a15⟩ := id hTr
  have h8 := M.1
  have same : ∀ r : Int32, Inv (upd (upd si 1 (si 1)) 2 (si 2)) (va_up (va_up fa 32 (fa 32)) 36 (fa 36)) (upd sm 16 (sm 16)) (va_up (va_up fm 8 (fm 8)) 10 (fm 10)) := fun r => ⟨hTx, hF, n, c, cp, tu, pi, lo, de, fr, to, be, hTr, hEa, hNt, hSd, hUn, hIm, hBo, hMk⟩
  unfold F_X8_off F_X9_off
  rw [a7, a11]
  rcases no_one (c := n) (by omega) p1 with ⟨e1, e2⟩ | ⟨s, hs, rfl, e1, e2⟩
  · rw [bnd_of e1, bnd_of e2, if_neg (show ¬ (1 : Int32) = 0 by decide), if_pos (show (0 : Int32) = 0 from rfl)]
    exact ⟨_, _, _, _, _, _, _, _, rfl, rfl, same 0⟩
  rw [bnd_of e1, bnd_of e2, if_neg (show ¬ (1 : Int32) = 0 by decide), if_pos (show (0 : Int32) = 0 from rfl), bnd_of (v_X8_carOf hN h8 hNt.1 (NtOk_ca a1 hNt) hs), rd_nI (by omega) (by omega)]
  by_cases q : fm 8 s = -1
  · rw [if_pos q, if_pos q]
    exact ⟨_, _, _, _, _, _, _, _, rfl, rfl, same 0⟩
  · obtain ⟨x1, x2, cells', m', rows', f1, f2, hU⟩ := un_step hN h8 hUn hNt (si 23)
    rw [if_neg q, if_neg q, bnd_of f1, bnd_of f2, bnd_of (v_X2_lead hN _ (by omega) _), rd_nI (by omega) (by omega), wr_nI (by omega) (by omega)]
    exact ⟨_, _, _, _, _, _, _, _, rfl, rfl, hTx, hF, n, c, cp, tu, pi, lo, de, fr, to, be, hTr, hEa, NtOk_put h8 hNt hs (Or.inl rfl) a1, hSd, hU, hIm, hBo, hMk⟩
end Ops

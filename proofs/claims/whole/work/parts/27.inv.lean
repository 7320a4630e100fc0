def TxI (l1 l2 : Int32) (t1 t2 : Nat → Int32) : Prop := ∃ len, len ≤ 240 ∧ l1 = nI len ∧ l2 = nI len ∧ ∀ j, j < len → ∃ b, b < 256 ∧ t1 j = nI b ∧ t2 j = nI b
def MaI (n : Nat) (f10 g7 : Nat → Int32) : Prop := ∀ s, s < n → f10 s = g7 s ∧ (g7 s = -1 ∨ ∃ m, m < n ∧ m ≠ s ∧ g7 s = nI m ∧ g7 m = nI s)
def BeI (c : Nat) (be : Nat → Nat) (f4 g5 : Nat → Int32) : Prop := ∀ k, k < c → f4 k = nI (be k) ∧ g5 k = nI (be k) ∧ 1 ≤ be k ∧ be k ≤ 8
def TrI (n c cp : Nat) (tu : Int32) (pi lo de fr to be : Nat → Nat) (x11 x12 x13 x14 : Int32) (f4 f5 f6 f7 f8 f9 f10 : Nat → Int32) (m12 m13 m14 m15 : Int32) (g5 g6 g7 : Nat → Int32) : Prop :=
  c ≤ 4 ∧ cp ≤ 4 ∧ (c = 0 → n = 0) ∧ MOk n pi lo de fr to g6 ∧ TrOk n pi lo de fr to f5 f6 f7 f8 f9 ∧ x11 = nI c ∧ x12 = nI n ∧ x13 = nI cp ∧ x14 = tu ∧ m12 = nI c ∧ m13 = nI n ∧ m14 = nI cp ∧ m15 = tu ∧ BeI c be f4 g5 ∧ MaI n f10 g7
def NtOk (n c : Nat) (be : Nat → Nat) (crews row : Nat → Int32) (aw hr : Int32) : Prop :=
  Cr n row crews ∧ (∀ s, s < n → row s = -1 ∨ ∃ k, k < c ∧ row s = nI k) ∧ (∀ k, k < c → cnt (innM n row k) 8 ≤ be k) ∧ aw = row 8 ∧ (∀ s, bt aw s = true → s < n) ∧ ∃ h, h ≤ 12 ∧ hr = nI h ∧ row 9 = nI h
def SdI (x y : Int32) : Prop := ∃ sd, sd < 2147483648 ∧ x = nI sd ∧ y = nI sd
def RcOk (n c : Nat) (be : Nat → Nat) (cells : Nat → Int32) (p : Nat) (rows : Nat → Int32) (q : Nat) : Prop := NtOk n c be (fun k => cells (7 * p + k)) (fun s => rows (10 * q + s)) (cells (7 * p + 4)) (cells (7 * p + 5))
def UnI (n c : Nat) (be : Nat → Nat) (x1 x2 : Int32) (cells : Nat → Int32) (m16 : Int32) (rows : Nat → Int32) : Prop := ∃ o u, o < 20 ∧ u ≤ 20 ∧ x1 = nI o ∧ x2 = nI u ∧ m16 = nI u ∧ ∀ j, j < u → RcOk n c be cells ((o + j) % 20) rows j
def ImI (n c : Nat) (be : Nat → Nat) (x3 : Int32) (cells : Nat → Int32) (rows seeds kept : Nat → Int32) : Prop := ∀ i, i < 2 → kept i = b2i (bt x3 i) ∧ (bt x3 i = true → RcOk n c be cells i rows i ∧ SdI (cells (7 * i + 6)) (seeds i))
def BoI (n : Nat) (x4 : Int32) (f39 f40 : Nat → Int32) (m18 : Int32) (g14 : Nat → Int32) : Prop := ∃ e, e ≤ 15 ∧ x4 = nI e ∧ m18 = nI e ∧ ∀ j, j < e → ∃ (s : Nat) (b : Bool), s < n ∧ f39 j = nI s ∧ g14 (2 * j) = nI s ∧ f40 j = b2i b ∧ g14 (2 * j + 1) = b2i b
/-! made up: a row of cars for the sleepers; how many are awake then -/
def LayOk (n c : Nat) (be : Nat → Nat) (ma : Nat → Int32) (f : Nat → Nat) : Prop := (∀ s, s < n → f s < c) ∧ (∀ k, k < c → cnt (fun s => decide (s < n ∧ f s = k)) 8 ≤ be k) ∧ ∀ s, s < n → ∀ m, m < n → ma s = nI m → f m = f s
def awkN (n : Nat) (tu : Int32) (pi lo de fr to : Nat → Nat) (f : Nat → Nat) : Nat := cnt (moG (jarT tu pi) (iF lo) (iF de) (liveT n fr to) (fun k s => decide (s < n ∧ f s = k)) 12 (fun _ => false) 0) 8
def lexL (n : Nat) (f g : Nat → Nat) : Prop := ∃ s, s < n ∧ f s < g s ∧ ∀ t, t < s → f t = g t
def BestM (n c : Nat) (tu : Int32) (pi lo de fr to be : Nat → Nat) (ma : Nat → Int32) (few : Int32) (row : Nat → Int32) : Prop :=
  (few = -1 ∧ ∀ f, ¬ LayOk n c be ma f) ∨ ∃ f, LayOk n c be ma f ∧ few = nI (awkN n tu pi lo de fr to f) ∧ (∀ s, s < n → row s = nI (f s)) ∧ ∀ g, LayOk n c be ma g → awkN n tu pi lo de fr to f < awkN n tu pi lo de fr to g ∨ (awkN n tu pi lo de fr to f = awkN n tu pi lo de fr to g ∧ ((∀ s, s < n → f s = g s) ∨ lexL n f g))
def MkI (n c : Nat) (tu : Int32) (pi lo de fr to be : Nat → Nat) (ma : Nat → Int32) (x27 x28 : Int32) (best : Nat → Int32) : Prop := x27 = 0 ∨ (x27 = 1 ∧ ∃ row : Nat → Int32, BestM n c tu pi lo de fr to be ma x28 row ∧ (x28 = -1 ∨ Cr n row best))
def Inv (si : Nat → Int32) (fa : Nat → Nat → Int32) (sm : Nat → Int32) (fm : Nat → Nat → Int32) : Prop :=
  TxI (si 5) (sm 0) (fa 2) (fm 1) ∧ si 0 = sm 6 ∧ ∃ (n c cp : Nat) (tu : Int32) (pi lo de fr to be : Nat → Nat),
    TrI n c cp tu pi lo de fr to be (si 11) (si 12) (si 13) (si 14) (fa 4) (fa 5) (fa 6) (fa 7) (fa 8) (fa 9) (fa 10) (sm 12) (sm 13) (sm 14) (sm 15) (fm 5) (fm 6) (fm 7) ∧
    (si 19 = nI n ∧ EarOk n tu pi lo de fr to (fa 21) (fa 22) (fa 23) (fa 24)) ∧ NtOk n c be (fa 32) (fm 8) (si 21) (si 22) ∧ SdI (si 23) (sm 17) ∧
    UnI n c be (si 1) (si 2) (fa 36) (sm 16) (fm 10) ∧ ImI n c be (si 3) (fa 38) (fm 11) (fm 12) (fm 13) ∧ BoI n (si 4) (fa 39) (fa 40) (sm 18) (fm 14) ∧
    MkI n c tu pi lo de fr to be (fm 7) (si 27) (si 28) (fa 42)
theorem NtOk_ca {n c : Nat} {be : Nat → Nat} {crews row : Nat → Int32} {aw hr : Int32} (hc : c ≤ 4) (h : NtOk n c be crews row aw hr) : CaOk n row := fun s hs => (h.2.1 s hs).imp id (fun ⟨k, hk, e⟩ => ⟨k, by omega, e⟩)
section Ops
variable {si : Nat → Int32} {fa : Nat → Nat → Int32} {sm : Nat → Int32} {fm : Nat → Nat → Int32} {N : Nat}
theorem op_fault (I : Inv si fa sm fm) : ∃ r, F_X8_fault (si 0) = some r ∧ F_X9_fault (sm 6) = some r := ⟨si 0, rfl, by rw [I.2.1]; rfl⟩
theorem op_feed (I : Inv si fa sm fm) (p1 : Int32) : ∃ r l t l' t', F_X8_feed (si 5) (fa 2) p1 = some (r, l, t) ∧ F_X9_feed (sm 0) (fm 1) p1 = some (r, l', t') ∧ Inv (upd si 5 l) (va_up fa 2 t) (upd sm 0 l') (va_up fm 1 t') := by
  obtain ⟨⟨len, h1, h2, h3, h4⟩, hF, hI⟩ := id I
  unfold F_X8_feed F_X9_feed
  by_cases hp : p1 < 0
  · refine ⟨_, _, _, _, _, if_pos hp, ?_, ⟨len, h1, h2, h3, h4⟩, hF, hI⟩
    unfold F_X9_in
    rw [if_pos hp, bnd_some, if_pos rfl]
  · obtain ⟨b, hb, rfl⟩ := nI_of hp
    by_cases hb2 : b ≤ 255
    · rw [if_neg hp, if_pos (le255 hb2)]
      have hin : F_X9_in (nI b) 0 255 = some 1 := in_in (m := 255) (by omega) hb2
      rw [bnd_of hin, if_neg (by decide), h2, h3]
      unfold F_X6_add
      by_cases hl : len < 240
      · rw [if_pos (lt240 hl), bnd_of (layI_in hl (by omega)), nm_def, i_s, bnd_some, if_neg (show ¬ (1 : Int32) = 0 by decide), if_neg (ne240 (by omega) (by omega)), wr_nI hl (by omega), nm_def]
        refine ⟨_, _, _, _, _, rfl, rfl, ⟨len + 1, by omega, rfl, rfl, fun j hj => ?_⟩, hF, hI⟩
        show ∃ b', b' < 256 ∧ upd (fa 2) len (nI b) j = nI b' ∧ upd (fm 1) len (nI b) j = nI b'
        by_cases e : j = len
        · subst e
          exact ⟨b, by omega, pk_us, pk_us⟩
        · obtain ⟨b', q1, q2, q3⟩ := h4 j (by omega)
          exact ⟨b', q1, by rw [pk_un e]; exact q2, by rw [pk_un e]; exact q3⟩
      · have e : len = 240 := by omega
        subst e
        rw [if_neg (nlt240 (Nat.le_refl _) (by omega)), bnd_some, if_pos (show (0 : Int32) = 0 from rfl), if_pos (show nI 240 = 240 from rfl)]
        exact ⟨_, _, _, _, _, rfl, rfl, ⟨240, by omega, rfl, rfl, h4⟩, hF, hI⟩
    · rw [if_neg hp, if_neg (nle255 (by omega) hb)]
      have hin : F_X9_in (nI b) 0 255 = some 0 := in_out (m := 255) (by omega) (fun j hj e => hb2 (by have := i_inj hb (by omega) e; omega))
      rw [bnd_of hin, if_pos rfl]
      exact ⟨_, _, _, _, _, rfl, rfl, ⟨len, h1, h2, h3, h4⟩, hF, hI⟩
theorem op_tear (I : Inv si fa sm fm) : ∃ r l l', F_X8_tear (si 4) = some (r, l) ∧ F_X9_tear (sm 18) = some (r, l') ∧ Inv (upd si 4 l) fa (upd sm 18 l') fm := by
  obtain ⟨hTx, hF, n, c, cp, tu, pi, lo, de, fr, to, be, hTr, hEa, hNt, hSd, hUn, hIm, ⟨e, h1, h2, h3, h4⟩, hMk⟩ := id I
  refine ⟨si 4, 0, 0, rfl, ?_, hTx, hF, n, c, cp, tu, pi, lo, de, fr, to, be, hTr, hEa, hNt, hSd, hUn, hIm, ⟨0, by omega, rfl, rfl, fun j hj => absurd hj (by omega)⟩, hMk⟩
  unfold F_X9_tear
  rw [h3, h2]
theorem op_seed (I : Inv si fa sm fm) (p1 : Int32) : ∃ r l l', F_X8_seed (si 23) p1 = some (r, l) ∧ F_X9_seed (sm 17) p1 = some (r, l') ∧ Inv (upd si 23 l) fa (upd sm 17 l') fm := by
  obtain ⟨hTx, hF, n, c, cp, tu, pi, lo, de, fr, to, be, hTr, hEa, hNt, ⟨sd, h1, h2, h3⟩, hUn, hIm, hBo, hMk⟩ := id I
  unfold F_X8_seed F_X9_seed
  rw [h2, h3]
  by_cases hp : p1 < 0
  · have hq : ¬ 0 ≤ p1 := fun e => by
      rw [Int32.le_iff_toInt_le] at e
      rw [Int32.lt_iff_toInt_lt] at hp
      omega
    rw [if_neg hq]
    exact ⟨_, _, _, rfl, rfl, hTx, hF, n, c, cp, tu, pi, lo, de, fr, to, be, hTr, hEa, hNt, ⟨sd, h1, rfl, rfl⟩, hUn, hIm, hBo, hMk⟩
  · obtain ⟨b, hb, rfl⟩ := nI_of hp
    rw [if_pos (ge0 (Nat.zero_le _) hb)]
    exact ⟨_, _, _, rfl, rfl, hTx, hF, n, c, cp, tu, pi, lo, de, fr, to, be, hTr, hEa, hNt, ⟨b, hb, rfl, rfl⟩, hUn, hIm, hBo, hMk⟩
theorem op_interval (I : Inv si fa sm fm) (p1 p2 : Int32) : ∃ r, F_X8_interval (si 12) (fa 5) p1 p2 = some r ∧ F_X9_interval (sm 13) (fm 6) p1 p2 = some r := by
  obtain ⟨hTx, hF, n, c, cp, tu, pi, lo, de, fr, to, be, ⟨a1, a2, a3, M, T, a6, a7, a8, a9, a10, a11, a12, a13, a14, a15⟩, hI⟩ := id I
  have h8 := M.1
  unfold F_X8_interval F_X9_interval
  rw [a7, a11]
  rcases no_one (c := n) (by omega) p1 with ⟨e1, e2⟩ | ⟨s, hs, rfl, e1, e2⟩
  · rw [bnd_of e1, bnd_of e2, if_neg (show ¬ (1 : Int32) = 0 by decide), if_pos (show (0 : Int32) = 0 from rfl)]
    exact ⟨_, rfl, rfl⟩
  · rw [bnd_of e1, bnd_of e2, if_neg (show ¬ (1 : Int32) = 0 by decide), if_pos (show (0 : Int32) = 0 from rfl)]
    rcases no_one (c := n) (by omega) p2 with ⟨e1, e2⟩ | ⟨t, ht, rfl, e1, e2⟩
    · rw [bnd_of e1, bnd_of e2, if_neg (show ¬ (1 : Int32) = 0 by decide), if_pos (show (0 : Int32) = 0 from rfl)]
      exact ⟨_, rfl, rfl⟩
    · rw [bnd_of e1, bnd_of e2, if_neg (show ¬ (1 : Int32) = 0 by decide), if_pos (show (0 : Int32) = 0 from rfl)]
      by_cases e : nI s = nI t
      · rw [if_pos e, if_pos e]
        exact ⟨_, rfl, rfl⟩
      · have hs2 := M.2 s hs
        have ht2 := M.2 t ht
        rw [if_neg e, if_neg e, bnd_of (atI_in (by omega) (by omega)), bnd_of (atI_in (by omega) (by omega)), (T s hs).1, (T t ht).1, bnd_of (v_X8_apart _ hs2.2.2.2.2.2.1 _ ht2.2.2.2.2.2.1), bnd_of (v_X9_pitchOf M hs), bnd_of (v_X9_pitchOf M ht), bnd_of (v_X9_apart _ hs2.2.2.2.2.2.1 _ ht2.2.2.2.2.2.1)]
        exact ⟨_, rfl, rfl⟩
theorem op_write (I : Inv si fa sm fm) (p1 p2 : Int32) : ∃ r l f g l' f', F_X8_write (si 4) (si 12) (fa 39) (fa 40) p1 p2 = some (r, l, f, g) ∧ F_X9_write (sm 13) (sm 18) (fm 14) p1 p2 = some (r, l', f') ∧ Inv (upd si 4 l) (va_up (va_up fa 39 f) 40 g) (upd sm 18 l') (va_up fm 14 f') := by
  obtain ⟨hTx, hF, n, c, cp, tu, pi, lo, de, fr, to, be, hTr, hEa, hNt, hSd, hUn, hIm, ⟨e, h1, h2, h3, h4⟩, hMk⟩ := id I
  have h8 := hTr.2.2.2.1.1
  have a7 := hTr.2.2.2.2.2.2.1
  have a11 := hTr.2.2.2.2.2.2.2.2.2.2.1
  unfold F_X8_write F_X9_write
  rw [a7, a11, h2, h3]
  rcases no_one (c := n) (by omega) p1 with ⟨e1, e2⟩ | ⟨s, hs, rfl, e1, e2⟩
  · rw [bnd_of e1, bnd_of e2, if_neg (show ¬ (1 : Int32) = 0 by decide), if_pos (show (0 : Int32) = 0 from rfl)]
    exact ⟨_, _, _, _, _, _, rfl, rfl, hTx, hF, n, c, cp, tu, pi, lo, de, fr, to, be, hTr, hEa, hNt, hSd, hUn, hIm, ⟨e, h1, rfl, rfl, h4⟩, hMk⟩
  · rw [bnd_of e1, bnd_of e2, if_neg (show ¬ (1 : Int32) = 0 by decide), if_pos (show (0 : Int32) = 0 from rfl)]
    by_cases he : e < 15
    · rw [if_pos (lt15 he), if_neg (ne15 (by omega) (by omega)), bnd_of (layI_in (by omega) (by omega)), show (2 : Int32) = nI 2 from rfl, pk_mul, wr_nI (by omega) (by omega)]
      have fin : ∀ b : Bool, ∃ r l f g l' f', B_X8_write_52 (nI n) (nI s) p2 (nI e) (upd (fa 39) e (nI s)) (fa 40) (nI e) (b2i b) = some (r, l, f, g) ∧ B_X9_write_56 (nI n) (nI s) p2 (nI e) (upd (fm 14) (2 * e) (nI s)) (nI (2 * e) + 1) (b2i b) = some (r, l', f') ∧ Inv (upd si 4 l) (va_up (va_up fa 39 f) 40 g) (upd sm 18 l') (va_up fm 14 f') := fun b => by
        unfold B_X8_write_52 B_X9_write_56
        rw [bnd_of (layI_in (by omega) (by omega)), nm_def, i_s, i_s, wr_nI (by omega) (by omega), nm_def]
        refine ⟨_, _, _, _, _, _, rfl, rfl, hTx, hF, n, c, cp, tu, pi, lo, de, fr, to, be, hTr, hEa, hNt, hSd, hUn, hIm, ⟨e + 1, by omega, rfl, rfl, fun j hj => ?_⟩, hMk⟩
        show ∃ (s' : Nat) (b' : Bool), s' < n ∧ upd (fa 39) e (nI s) j = nI s' ∧ upd (upd (fm 14) (2 * e) (nI s)) (2 * e + 1) (b2i b) (2 * j) = nI s' ∧ upd (fa 40) e (b2i b) j = b2i b' ∧ upd (upd (fm 14) (2 * e) (nI s)) (2 * e + 1) (b2i b) (2 * j + 1) = b2i b'
        by_cases q : j = e
        · subst q
          exact ⟨s, b, hs, pk_us, by rw [pk_un (by omega), pk_us], pk_us, pk_us⟩
        · obtain ⟨s', b', q1, q2, q3, q4, q5⟩ := h4 j (by omega)
          exact ⟨s', b', q1, by rw [pk_un q]; exact q2, by rw [pk_un (by omega), pk_un (by omega)]; exact q3, by rw [pk_un q]; exact q4, by rw [pk_un (by omega), pk_un (by omega)]; exact q5⟩
      by_cases hp : p2 = 0
      · rw [if_pos hp, if_pos hp]
        exact fin false
      · rw [if_neg hp, if_neg hp]
        exact fin true
    · have q : e = 15 := by omega
      subst q
      rw [if_neg (nlt15 (Nat.le_refl _) (by omega)), if_pos (show nI 15 = 15 from rfl)]
      exact ⟨_, _, _, _, _, _, rfl, rfl, hTx, hF, n, c, cp, tu, pi, lo, de, fr, to, be, hTr, hEa, hNt, hSd, hUn, hIm, ⟨15, h1, rfl, rfl, h4⟩, hMk⟩
end Ops

def C_X3_store (K : gK) (a : Nat) (a_cells : Nat) (b2 : Nat) (b2_crews : Nat) (n_a_cells : Nat) (f_a_cells : Nat → Int32) (s_b2_awake : Int32) (s_b2_hour : Int32) (s_b2_seed : Int32) (f_b2_crews : Nat → Int32) : va_W := [(a, .inr (3, [.ref a_cells])), (a_cells, .inl (kI K, n_a_cells, .inl f_a_cells)), (b2, .inr (2, [.ref b2_crews, .int s_b2_awake, .int s_b2_hour, .int s_b2_seed])), (b2_crews, .inl (kI K, 4, .inl f_b2_crews))]
def M_X3_store : gM := (yX3_store, cX3_store, 5, none, { frames := 1, cells := 0, slots := 0, locals := 22 })
def O_X3_store (K : gK) (a : Nat) (a_cells : Nat) (b2 : Nat) (b2_crews : Nat) (n_a_cells : Nat) (s_b2_awake : Int32) (s_b2_hour : Int32) (s_b2_seed : Int32) (f_b2_crews : Nat → Int32) (o : (Nat → Int32)) : Option Value → va_W → Prop := fun r w => r = none ∧ w = C_X3_store K a a_cells b2 b2_crews n_a_cells o s_b2_awake s_b2_hour s_b2_seed f_b2_crews
noncomputable def B_X3_store_8 (N : Nat) (n_a_cells : Nat) (s_b2_awake : Int32) (s_b2_hour : Int32) (s_b2_seed : Int32) (f_b2_crews : Nat → Int32) (p1 : Int32) (k8 : (Nat → Int32) → Int32 → Int32 → Option ((Nat → Int32))) (f_a_cells : Nat → Int32) (x3 : Int32) (x4 : Int32) : Option ((Nat → Int32)) := if (4 : Int32) ≤ x4 then bnd (F_X8_lay n_a_cells f_a_cells (x3 + (4 : Int32)) s_b2_awake) (fun o2 => bnd (F_X8_lay n_a_cells o2 ((x3 + (4 : Int32)) + (1 : Int32)) s_b2_hour) (fun o3 => bnd (F_X8_lay n_a_cells o3 ((x3 + (4 : Int32)) + (2 : Int32)) s_b2_seed) (fun o4 => some o4))) else bnd (F_X8_at 4 f_b2_crews x4) (fun o5 => bnd (F_X8_lay n_a_cells f_a_cells (x3 + x4) o5) (fun o6 => nm (x4 + (1 : Int32)) (fun v7 => k8 o6 x3 v7)))
noncomputable def F_X3_store_8 (N : Nat) (n_a_cells : Nat) (s_b2_awake : Int32) (s_b2_hour : Int32) (s_b2_seed : Int32) (f_b2_crews : Nat → Int32) (p1 : Int32)  : Nat → (Nat → Int32) → Int32 → Int32 → Option ((Nat → Int32)) := lq3 (fun self => B_X3_store_8 N n_a_cells s_b2_awake s_b2_hour s_b2_seed f_b2_crews p1  self)
set_option maxHeartbeats 4000000 in
theorem G_X3_store_8 {K : gK} {X : gX} {wi : va_W} {o : (Nat → Int32)} (N : Nat) (n_a_cells : Nat) (s_b2_awake : Int32) (s_b2_hour : Int32) (s_b2_seed : Int32) (f_b2_crews : Nat → Int32) (p1 : Int32) (a : Nat) (a_cells : Nat) (b2 : Nat) (b2_crews : Nat) (hR : gR K X M_X3_store wi (O_X3_store K a a_cells b2 b2_crews n_a_cells s_b2_awake s_b2_hour s_b2_seed f_b2_crews o)) (k8 : (Nat → Int32) → Int32 → Int32 → Option ((Nat → Int32))) (hk8 : ∀ (f_a_cells : Nat → Int32) (x3 : Int32) (x4 : Int32), k8 f_a_cells x3 x4 = some o → Go K X M_X3_store 0 0 (C_X3_store K a a_cells b2 b2_crews n_a_cells f_a_cells s_b2_awake s_b2_hour s_b2_seed f_b2_crews) [(0, .ref a), (2, .ref b2), (3, .int x3), (4, .int x4)] 8 []) (f_a_cells : Nat → Int32) (x3 : Int32) (x4 : Int32) (hF : B_X3_store_8 N n_a_cells s_b2_awake s_b2_hour s_b2_seed f_b2_crews p1 k8 f_a_cells x3 x4 = some o) : Go K X M_X3_store 0 0 (C_X3_store K a a_cells b2 b2_crews n_a_cells f_a_cells s_b2_awake s_b2_hour s_b2_seed f_b2_crews) [(0, .ref a), (2, .ref b2), (3, .int x3), (4, .int x4)] 8 [] := by
  unfold B_X3_store_8 at hF
  refine go_iload 3 dX3_store_8 rfl ?_
  refine go_iconst (v := (4 : Int32)) dX3_store_10 (by decide) ?_
  refine go_icmp_ge 40 hF dX3_store_11 (by decide) (fun hF => ?_) (fun hF => ?_)
  · refine go_aload_n 0 dX3_store_40 rfl rfl ?_
    refine go_get 3 0 0 hcX3 inX3 (Nat.le_of_ble_eq_true rfl) wd262 rfl rfl dX3_store_41 ?_
    refine go_iload_n 2 dX3_store_44 rfl rfl ?_
    refine go_iconst (v := (4 : Int32)) dX3_store_45 (by decide) ?_
    refine go_iadd dX3_store_46 ?_
    refine go_aload_n 1 dX3_store_47 rfl rfl ?_
    refine go_get 2 2 1 hcX2 inX2 (Nat.le_of_ble_eq_true rfl) wd234 rfl rfl dX3_store_48 ?_
    obtain ⟨o2, ho2, hF⟩ := bnd_elim hF
    refine go_callSN (As := [.ref a_cells, .int (x3 + (4 : Int32)), .int s_b2_awake]) (rest := []) (wr := [(a, .inr (3, [.ref a_cells])), (b2, .inr (2, [.ref b2_crews, .int s_b2_awake, .int s_b2_hour, .int s_b2_seed])), (b2_crews, .inl (kI K, 4, .inl f_b2_crews))]) (kn_X8_lay K a_cells n_a_cells f_a_cells (x3 + (4 : Int32)) s_b2_awake ho2) ok_X8_lay ⟨Nat.le_of_ble_eq_true rfl, Nat.le_of_ble_eq_true rfl⟩ ⟨Nat.le_of_ble_eq_true rfl, Nat.le_of_ble_eq_true rfl⟩ ns12 rfl rfl (Nat.le_of_ble_eq_true rfl) dX3_store_51 [1] [0, 2, 3] rfl rfl rfl rfl (by decide) (fun r wo hO => ?_)
    obtain ⟨rfl, rfl⟩ := hO
    refine go_ws (ws' := C_X3_store K a a_cells b2 b2_crews n_a_cells o2 s_b2_awake s_b2_hour s_b2_seed f_b2_crews) [0, 3, 1, 2] rfl rfl ?_
    refine go_eq (pc' := 54) (st' := []) rfl rfl ?_
    refine go_aload_n 0 dX3_store_54 rfl rfl ?_
    refine go_get 3 0 0 hcX3 inX3 (Nat.le_of_ble_eq_true rfl) wd262 rfl rfl dX3_store_55 ?_
    refine go_iload_n 2 dX3_store_58 rfl rfl ?_
    refine go_iconst (v := (4 : Int32)) dX3_store_59 (by decide) ?_
    refine go_iadd dX3_store_60 ?_
    refine go_iconst (v := (1 : Int32)) dX3_store_61 (by decide) ?_
    refine go_iadd dX3_store_62 ?_
    refine go_aload_n 1 dX3_store_63 rfl rfl ?_
    refine go_get 2 2 2 hcX2 inX2 (Nat.le_of_ble_eq_true rfl) wd238 rfl rfl dX3_store_64 ?_
    obtain ⟨o3, ho3, hF⟩ := bnd_elim hF
    refine go_callSN (As := [.ref a_cells, .int ((x3 + (4 : Int32)) + (1 : Int32)), .int s_b2_hour]) (rest := []) (wr := [(a, .inr (3, [.ref a_cells])), (b2, .inr (2, [.ref b2_crews, .int s_b2_awake, .int s_b2_hour, .int s_b2_seed])), (b2_crews, .inl (kI K, 4, .inl f_b2_crews))]) (kn_X8_lay K a_cells n_a_cells o2 ((x3 + (4 : Int32)) + (1 : Int32)) s_b2_hour ho3) ok_X8_lay ⟨Nat.le_of_ble_eq_true rfl, Nat.le_of_ble_eq_true rfl⟩ ⟨Nat.le_of_ble_eq_true rfl, Nat.le_of_ble_eq_true rfl⟩ ns12 rfl rfl (Nat.le_of_ble_eq_true rfl) dX3_store_67 [1] [0, 2, 3] rfl rfl rfl rfl (by decide) (fun r wo hO => ?_)
    obtain ⟨rfl, rfl⟩ := hO
    refine go_ws (ws' := C_X3_store K a a_cells b2 b2_crews n_a_cells o3 s_b2_awake s_b2_hour s_b2_seed f_b2_crews) [0, 3, 1, 2] rfl rfl ?_
    refine go_eq (pc' := 70) (st' := []) rfl rfl ?_
    refine go_aload_n 0 dX3_store_70 rfl rfl ?_
    refine go_get 3 0 0 hcX3 inX3 (Nat.le_of_ble_eq_true rfl) wd262 rfl rfl dX3_store_71 ?_
    refine go_iload_n 2 dX3_store_74 rfl rfl ?_
    refine go_iconst (v := (4 : Int32)) dX3_store_75 (by decide) ?_
    refine go_iadd dX3_store_76 ?_
    refine go_iconst (v := (2 : Int32)) dX3_store_77 (by decide) ?_
    refine go_iadd dX3_store_78 ?_
    refine go_aload_n 1 dX3_store_79 rfl rfl ?_
    refine go_get 2 2 3 hcX2 inX2 (Nat.le_of_ble_eq_true rfl) wd241 rfl rfl dX3_store_80 ?_
    obtain ⟨o4, ho4, hF⟩ := bnd_elim hF
    refine go_callSN (As := [.ref a_cells, .int ((x3 + (4 : Int32)) + (2 : Int32)), .int s_b2_seed]) (rest := []) (wr := [(a, .inr (3, [.ref a_cells])), (b2, .inr (2, [.ref b2_crews, .int s_b2_awake, .int s_b2_hour, .int s_b2_seed])), (b2_crews, .inl (kI K, 4, .inl f_b2_crews))]) (kn_X8_lay K a_cells n_a_cells o3 ((x3 + (4 : Int32)) + (2 : Int32)) s_b2_seed ho4) ok_X8_lay ⟨Nat.le_of_ble_eq_true rfl, Nat.le_of_ble_eq_true rfl⟩ ⟨Nat.le_of_ble_eq_true rfl, Nat.le_of_ble_eq_true rfl⟩ ns12 rfl rfl (Nat.le_of_ble_eq_true rfl) dX3_store_83 [1] [0, 2, 3] rfl rfl rfl rfl (by decide) (fun r wo hO => ?_)
    obtain ⟨rfl, rfl⟩ := hO
    refine go_ws (ws' := C_X3_store K a a_cells b2 b2_crews n_a_cells o4 s_b2_awake s_b2_hour s_b2_seed f_b2_crews) [0, 3, 1, 2] rfl rfl ?_
    refine go_eq (pc' := 86) (st' := []) rfl rfl ?_
    exact go_vret (Om := O_X3_store K a a_cells b2 b2_crews n_a_cells s_b2_awake s_b2_hour s_b2_seed f_b2_crews) hR hF dX3_store_86 rfl (Nat.zero_le _) (Nat.zero_le _) ⟨rfl, rfl⟩
  · refine go_aload_n 0 dX3_store_14 rfl rfl ?_
    refine go_get 3 0 0 hcX3 inX3 (Nat.le_of_ble_eq_true rfl) wd262 rfl rfl dX3_store_15 ?_
    refine go_iload_n 2 dX3_store_18 rfl rfl ?_
    refine go_iload 3 dX3_store_19 rfl ?_
    refine go_iadd dX3_store_21 ?_
    refine go_aload_n 1 dX3_store_22 rfl rfl ?_
    refine go_get 2 2 0 hcX2 inX2 (Nat.le_of_ble_eq_true rfl) wd230 rfl rfl dX3_store_23 ?_
    refine go_iload 3 dX3_store_26 rfl ?_
    obtain ⟨o5, ho5, hF⟩ := bnd_elim hF
    refine go_callSN (As := [.ref b2_crews, .int x4]) (rest := [.int (x3 + x4), .ref a_cells]) (wr := [(a, .inr (3, [.ref a_cells])), (a_cells, .inl (kI K, n_a_cells, .inl f_a_cells)), (b2, .inr (2, [.ref b2_crews, .int s_b2_awake, .int s_b2_hour, .int s_b2_seed]))]) (kn_X8_at K b2_crews 4 f_b2_crews x4 ho5) ok_X8_at ⟨Nat.le_of_ble_eq_true rfl, Nat.le_of_ble_eq_true rfl⟩ ⟨Nat.le_of_ble_eq_true rfl, Nat.le_of_ble_eq_true rfl⟩ ns11 rfl rfl (Nat.le_of_ble_eq_true rfl) dX3_store_28 [3] [0, 1, 2] rfl rfl rfl rfl (by decide) (fun r wo hO => ?_)
    obtain ⟨rfl, rfl⟩ := hO
    refine go_ws (ws' := C_X3_store K a a_cells b2 b2_crews n_a_cells f_a_cells s_b2_awake s_b2_hour s_b2_seed f_b2_crews) [0, 1, 2, 3] rfl rfl ?_
    refine go_eq (pc' := 31) (st' := [.int o5, .int (x3 + x4), .ref a_cells]) rfl rfl ?_
    obtain ⟨o6, ho6, hF⟩ := bnd_elim hF
    refine go_callSN (As := [.ref a_cells, .int (x3 + x4), .int o5]) (rest := []) (wr := [(a, .inr (3, [.ref a_cells])), (b2, .inr (2, [.ref b2_crews, .int s_b2_awake, .int s_b2_hour, .int s_b2_seed])), (b2_crews, .inl (kI K, 4, .inl f_b2_crews))]) (kn_X8_lay K a_cells n_a_cells f_a_cells (x3 + x4) o5 ho6) ok_X8_lay ⟨Nat.le_of_ble_eq_true rfl, Nat.le_of_ble_eq_true rfl⟩ ⟨Nat.le_of_ble_eq_true rfl, Nat.le_of_ble_eq_true rfl⟩ ns12 rfl rfl (Nat.le_of_ble_eq_true rfl) dX3_store_31 [1] [0, 2, 3] rfl rfl rfl rfl (by decide) (fun r wo hO => ?_)
    obtain ⟨rfl, rfl⟩ := hO
    refine go_ws (ws' := C_X3_store K a a_cells b2 b2_crews n_a_cells o6 s_b2_awake s_b2_hour s_b2_seed f_b2_crews) [0, 3, 1, 2] rfl rfl ?_
    refine go_eq (pc' := 34) (st' := []) rfl rfl ?_
    refine go_iinc 3 (fun y => [(4, .int y), (0, .ref a), (2, .ref b2), (3, .int x3)]) hF dX3_store_34 rfl rfl (Nat.le_of_ble_eq_true rfl) (fun _ => rfl) (fun v7 hF => ?_)
    refine go_goto 8 dX3_store_37 (by decide) ?_
    refine go_loc (L' := [(0, .ref a), (2, .ref b2), (3, .int x3), (4, .int v7)]) [1, 2, 3, 0] rfl ?_
    exact hk8 o6 x3 v7 hF
theorem GL_X3_store_8 {K : gK} {X : gX} {wi : va_W} {o : (Nat → Int32)} (N : Nat) (n_a_cells : Nat) (s_b2_awake : Int32) (s_b2_hour : Int32) (s_b2_seed : Int32) (f_b2_crews : Nat → Int32) (p1 : Int32) (a : Nat) (a_cells : Nat) (b2 : Nat) (b2_crews : Nat) (hR : gR K X M_X3_store wi (O_X3_store K a a_cells b2 b2_crews n_a_cells s_b2_awake s_b2_hour s_b2_seed f_b2_crews o))  : ∀ (fuel : Nat) (f_a_cells : Nat → Int32) (x3 : Int32) (x4 : Int32), F_X3_store_8 N n_a_cells s_b2_awake s_b2_hour s_b2_seed f_b2_crews p1  fuel f_a_cells x3 x4 = some o → Go K X M_X3_store 0 0 (C_X3_store K a a_cells b2 b2_crews n_a_cells f_a_cells s_b2_awake s_b2_hour s_b2_seed f_b2_crews) [(0, .ref a), (2, .ref b2), (3, .int x3), (4, .int x4)] 8 [] :=
  lq3_elim (fun self hs f_a_cells x3 x4 hF => G_X3_store_8 N n_a_cells s_b2_awake s_b2_hour s_b2_seed f_b2_crews p1 a a_cells b2 b2_crews hR  self hs f_a_cells x3 x4 hF)
noncomputable def F_X3_store (N : Nat) (n_a_cells : Nat) (f_a_cells : Nat → Int32) (s_b2_awake : Int32) (s_b2_hour : Int32) (s_b2_seed : Int32) (f_b2_crews : Nat → Int32) (p1 : Int32) : Option ((Nat → Int32)) := nm ((7 : Int32) * p1) (fun v1 => F_X3_store_8 N n_a_cells s_b2_awake s_b2_hour s_b2_seed f_b2_crews p1 N f_a_cells v1 (0 : Int32))
set_option maxHeartbeats 4000000 in
theorem kn_X3_store (K : gK) (N : Nat) (a : Nat) (a_cells : Nat) (b2 : Nat) (b2_crews : Nat) (n_a_cells : Nat) (f_a_cells : Nat → Int32) (s_b2_awake : Int32) (s_b2_hour : Int32) (s_b2_seed : Int32) (f_b2_crews : Nat → Int32) (p1 : Int32) {o : (Nat → Int32)} (hF : F_X3_store N n_a_cells f_a_cells s_b2_awake s_b2_hour s_b2_seed f_b2_crews p1 = some o) : Kn K M_X3_store [.ref a, .int p1, .ref b2] (C_X3_store K a a_cells b2 b2_crews n_a_cells f_a_cells s_b2_awake s_b2_hour s_b2_seed f_b2_crews) (O_X3_store K a a_cells b2 b2_crews n_a_cells s_b2_awake s_b2_hour s_b2_seed f_b2_crews o) := by
  refine kn_of (by decide +kernel) (Nat.le_of_ble_eq_true rfl) (fun X hR => ?_)
  refine go_loc (L' := [(0, .ref a), (1, .int p1), (2, .ref b2)]) [0, 1, 2] rfl ?_
  unfold F_X3_store at hF
  refine go_bipush (v := (7 : Int32)) dX3_store_0 (by decide) ?_
  refine go_iload_n 1 dX3_store_2 rfl rfl ?_
  refine go_imul dX3_store_3 ?_
  refine go_nmi hF (fun v1 hF => ?_)
  refine go_istore_n [(3, .int v1), (0, .ref a), (1, .int p1), (2, .ref b2)] dX3_store_4 rfl (Nat.le_of_ble_eq_true rfl) rfl ?_
  refine go_iconst (v := (0 : Int32)) dX3_store_5 (by decide) ?_
  refine go_istore [(4, .int (0 : Int32)), (3, .int v1), (0, .ref a), (1, .int p1), (2, .ref b2)] dX3_store_6 (Nat.le_of_ble_eq_true rfl) rfl ?_
  refine go_loc (L' := [(0, .ref a), (2, .ref b2), (3, .int v1), (4, .int (0 : Int32))]) [2, 4, 1, 0] rfl ?_
  exact GL_X3_store_8 N n_a_cells s_b2_awake s_b2_hour s_b2_seed f_b2_crews p1 a a_cells b2 b2_crews hR  N f_a_cells v1 (0 : Int32) hF
theorem ok_X3_store : gOkV M_X3_store 2 := ⟨⟨wd583, wd70, by decide +kernel, by decide +kernel, by decide +kernel⟩, wd581, wd582⟩
def C_X3_take (K : gK) (a : Nat) (a_cells : Nat) (b2 : Nat) (b2_crews : Nat) (n_a_cells : Nat) (f_a_cells : Nat → Int32) (s_b2_awake : Int32) (s_b2_hour : Int32) (s_b2_seed : Int32) (f_b2_crews : Nat → Int32) : va_W := [(a, .inr (3, [.ref a_cells])), (a_cells, .inl (kI K, n_a_cells, .inl f_a_cells)), (b2, .inr (2, [.ref b2_crews, .int s_b2_awake, .int s_b2_hour, .int s_b2_seed])), (b2_crews, .inl (kI K, 4, .inl f_b2_crews))]
def M_X3_take : gM := (yX3_take, cX3_take, 5, none, { frames := 1, cells := 0, slots := 0, locals := 22 })
def O_X3_take (K : gK) (a : Nat) (a_cells : Nat) (b2 : Nat) (b2_crews : Nat) (n_a_cells : Nat) (f_a_cells : Nat → Int32) (o : Int32 × Int32 × Int32 × (Nat → Int32)) : Option Value → va_W → Prop := fun r w => r = none ∧ w = C_X3_take K a a_cells b2 b2_crews n_a_cells f_a_cells o.1 o.2.1 o.2.2.1 o.2.2.2
noncomputable def B_X3_take_8 (N : Nat) (n_a_cells : Nat) (f_a_cells : Nat → Int32) (p1 : Int32) (k8 : Int32 → Int32 → Int32 → (Nat → Int32) → Int32 → Int32 → Option (Int32 × Int32 × Int32 × (Nat → Int32))) (s_b2_awake : Int32) (s_b2_hour : Int32) (s_b2_seed : Int32) (f_b2_crews : Nat → Int32) (x3 : Int32) (x4 : Int32) : Option (Int32 × Int32 × Int32 × (Nat → Int32)) := if (4 : Int32) ≤ x4 then bnd (F_X8_at n_a_cells f_a_cells (x3 + (4 : Int32))) (fun o2 => bnd (F_X8_at n_a_cells f_a_cells ((x3 + (4 : Int32)) + (1 : Int32))) (fun o3 => bnd (F_X8_at n_a_cells f_a_cells ((x3 + (4 : Int32)) + (2 : Int32))) (fun o4 => some (o2, o3, o4, f_b2_crews)))) else bnd (F_X8_at n_a_cells f_a_cells (x3 + x4)) (fun o5 => bnd (F_X8_lay 4 f_b2_crews x4 o5) (fun o6 => nm (x4 + (1 : Int32)) (fun v7 => k8 s_b2_awake s_b2_hour s_b2_seed o6 x3 v7)))
noncomputable def F_X3_take_8 (N : Nat) (n_a_cells : Nat) (f_a_cells : Nat → Int32) (p1 : Int32)  : Nat → Int32 → Int32 → Int32 → (Nat → Int32) → Int32 → Int32 → Option (Int32 × Int32 × Int32 × (Nat → Int32)) := lq6 (fun self => B_X3_take_8 N n_a_cells f_a_cells p1  self)
set_option maxHeartbeats 4000000 in
theorem G_X3_take_8 {K : gK} {X : gX} {wi : va_W} {o : Int32 × Int32 × Int32 × (Nat → Int32)} (N : Nat) (n_a_cells : Nat) (f_a_cells : Nat → Int32) (p1 : Int32) (a : Nat) (a_cells : Nat) (b2 : Nat) (b2_crews : Nat) (hR : gR K X M_X3_take wi (O_X3_take K a a_cells b2 b2_crews n_a_cells f_a_cells o)) (k8 : Int32 → Int32 → Int32 → (Nat → Int32) → Int32 → Int32 → Option (Int32 × Int32 × Int32 × (Nat → Int32))) (hk8 : ∀ (s_b2_awake : Int32) (s_b2_hour : Int32) (s_b2_seed : Int32) (f_b2_crews : Nat → Int32) (x3 : Int32) (x4 : Int32), k8 s_b2_awake s_b2_hour s_b2_seed f_b2_crews x3 x4 = some o → Go K X M_X3_take 0 0 (C_X3_take K a a_cells b2 b2_crews n_a_cells f_a_cells s_b2_awake s_b2_hour s_b2_seed f_b2_crews) [(0, .ref a), (2, .ref b2), (3, .int x3), (4, .int x4)] 8 []) (s_b2_awake : Int32) (s_b2_hour : Int32) (s_b2_seed : Int32) (f_b2_crews : Nat → Int32) (x3 : Int32) (x4 : Int32) (hF : B_X3_take_8 N n_a_cells f_a_cells p1 k8 s_b2_awake s_b2_hour s_b2_seed f_b2_crews x3 x4 = some o) : Go K X M_X3_take 0 0 (C_X3_take K a a_cells b2 b2_crews n_a_cells f_a_cells s_b2_awake s_b2_hour s_b2_seed f_b2_crews) [(0, .ref a), (2, .ref b2), (3, .int x3), (4, .int x4)] 8 [] := by
  unfold B_X3_take_8 at hF
  refine go_iload 3 dX3_take_8 rfl ?_
  refine go_iconst (v := (4 : Int32)) dX3_take_10 (by decide) ?_
  refine go_icmp_ge 40 hF dX3_take_11 (by decide) (fun hF => ?_) (fun hF => ?_)
  · refine go_aload_n 1 dX3_take_40 rfl rfl ?_
    refine go_aload_n 0 dX3_take_41 rfl rfl ?_
    refine go_get 3 0 0 hcX3 inX3 (Nat.le_of_ble_eq_true rfl) wd262 rfl rfl dX3_take_42 ?_
    refine go_iload_n 2 dX3_take_45 rfl rfl ?_
    refine go_iconst (v := (4 : Int32)) dX3_take_46 (by decide) ?_
    refine go_iadd dX3_take_47 ?_
    obtain ⟨o2, ho2, hF⟩ := bnd_elim hF
    refine go_callSN (As := [.ref a_cells, .int (x3 + (4 : Int32))]) (rest := [.ref b2]) (wr := [(a, .inr (3, [.ref a_cells])), (b2, .inr (2, [.ref b2_crews, .int s_b2_awake, .int s_b2_hour, .int s_b2_seed])), (b2_crews, .inl (kI K, 4, .inl f_b2_crews))]) (kn_X8_at K a_cells n_a_cells f_a_cells (x3 + (4 : Int32)) ho2) ok_X8_at ⟨Nat.le_of_ble_eq_true rfl, Nat.le_of_ble_eq_true rfl⟩ ⟨Nat.le_of_ble_eq_true rfl, Nat.le_of_ble_eq_true rfl⟩ ns11 rfl rfl (Nat.le_of_ble_eq_true rfl) dX3_take_48 [1] [0, 2, 3] rfl rfl rfl rfl (by decide) (fun r wo hO => ?_)
    obtain ⟨rfl, rfl⟩ := hO
    refine go_ws (ws' := C_X3_take K a a_cells b2 b2_crews n_a_cells f_a_cells s_b2_awake s_b2_hour s_b2_seed f_b2_crews) [0, 3, 1, 2] rfl rfl ?_
    refine go_eq (pc' := 51) (st' := [.int o2, .ref b2]) rfl rfl ?_
    refine go_put 2 2 1 (C_X3_take K a a_cells b2 b2_crews n_a_cells f_a_cells o2 s_b2_hour s_b2_seed f_b2_crews) hcX2 inX2 tyX2_ok nmX2 (Nat.le_of_ble_eq_true rfl) wd234 rfl rfl rfl rfl (Nat.le_of_ble_eq_true rfl) rfl dX3_take_51 ?_
    refine go_aload_n 1 dX3_take_54 rfl rfl ?_
    refine go_aload_n 0 dX3_take_55 rfl rfl ?_
    refine go_get 3 0 0 hcX3 inX3 (Nat.le_of_ble_eq_true rfl) wd262 rfl rfl dX3_take_56 ?_
    refine go_iload_n 2 dX3_take_59 rfl rfl ?_
    refine go_iconst (v := (4 : Int32)) dX3_take_60 (by decide) ?_
    refine go_iadd dX3_take_61 ?_
    refine go_iconst (v := (1 : Int32)) dX3_take_62 (by decide) ?_
    refine go_iadd dX3_take_63 ?_
    obtain ⟨o3, ho3, hF⟩ := bnd_elim hF
    refine go_callSN (As := [.ref a_cells, .int ((x3 + (4 : Int32)) + (1 : Int32))]) (rest := [.ref b2]) (wr := [(a, .inr (3, [.ref a_cells])), (b2, .inr (2, [.ref b2_crews, .int o2, .int s_b2_hour, .int s_b2_seed])), (b2_crews, .inl (kI K, 4, .inl f_b2_crews))]) (kn_X8_at K a_cells n_a_cells f_a_cells ((x3 + (4 : Int32)) + (1 : Int32)) ho3) ok_X8_at ⟨Nat.le_of_ble_eq_true rfl, Nat.le_of_ble_eq_true rfl⟩ ⟨Nat.le_of_ble_eq_true rfl, Nat.le_of_ble_eq_true rfl⟩ ns11 rfl rfl (Nat.le_of_ble_eq_true rfl) dX3_take_64 [1] [0, 2, 3] rfl rfl rfl rfl (by decide) (fun r wo hO => ?_)
    obtain ⟨rfl, rfl⟩ := hO
    refine go_ws (ws' := C_X3_take K a a_cells b2 b2_crews n_a_cells f_a_cells o2 s_b2_hour s_b2_seed f_b2_crews) [0, 3, 1, 2] rfl rfl ?_
    refine go_eq (pc' := 67) (st' := [.int o3, .ref b2]) rfl rfl ?_
    refine go_put 2 2 2 (C_X3_take K a a_cells b2 b2_crews n_a_cells f_a_cells o2 o3 s_b2_seed f_b2_crews) hcX2 inX2 tyX2_ok nmX2 (Nat.le_of_ble_eq_true rfl) wd238 rfl rfl rfl rfl (Nat.le_of_ble_eq_true rfl) rfl dX3_take_67 ?_
    refine go_aload_n 1 dX3_take_70 rfl rfl ?_
    refine go_aload_n 0 dX3_take_71 rfl rfl ?_
    refine go_get 3 0 0 hcX3 inX3 (Nat.le_of_ble_eq_true rfl) wd262 rfl rfl dX3_take_72 ?_
    refine go_iload_n 2 dX3_take_75 rfl rfl ?_
    refine go_iconst (v := (4 : Int32)) dX3_take_76 (by decide) ?_
    refine go_iadd dX3_take_77 ?_
    refine go_iconst (v := (2 : Int32)) dX3_take_78 (by decide) ?_
    refine go_iadd dX3_take_79 ?_
    obtain ⟨o4, ho4, hF⟩ := bnd_elim hF
    refine go_callSN (As := [.ref a_cells, .int ((x3 + (4 : Int32)) + (2 : Int32))]) (rest := [.ref b2]) (wr := [(a, .inr (3, [.ref a_cells])), (b2, .inr (2, [.ref b2_crews, .int o2, .int o3, .int s_b2_seed])), (b2_crews, .inl (kI K, 4, .inl f_b2_crews))]) (kn_X8_at K a_cells n_a_cells f_a_cells ((x3 + (4 : Int32)) + (2 : Int32)) ho4) ok_X8_at ⟨Nat.le_of_ble_eq_true rfl, Nat.le_of_ble_eq_true rfl⟩ ⟨Nat.le_of_ble_eq_true rfl, Nat.le_of_ble_eq_true rfl⟩ ns11 rfl rfl (Nat.le_of_ble_eq_true rfl) dX3_take_80 [1] [0, 2, 3] rfl rfl rfl rfl (by decide) (fun r wo hO => ?_)
    obtain ⟨rfl, rfl⟩ := hO
    refine go_ws (ws' := C_X3_take K a a_cells b2 b2_crews n_a_cells f_a_cells o2 o3 s_b2_seed f_b2_crews) [0, 3, 1, 2] rfl rfl ?_
    refine go_eq (pc' := 83) (st' := [.int o4, .ref b2]) rfl rfl ?_
    refine go_put 2 2 3 (C_X3_take K a a_cells b2 b2_crews n_a_cells f_a_cells o2 o3 o4 f_b2_crews) hcX2 inX2 tyX2_ok nmX2 (Nat.le_of_ble_eq_true rfl) wd241 rfl rfl rfl rfl (Nat.le_of_ble_eq_true rfl) rfl dX3_take_83 ?_
    exact go_vret (Om := O_X3_take K a a_cells b2 b2_crews n_a_cells f_a_cells) hR hF dX3_take_86 rfl (Nat.zero_le _) (Nat.zero_le _) ⟨rfl, rfl⟩
  · refine go_aload_n 1 dX3_take_14 rfl rfl ?_
    refine go_get 2 2 0 hcX2 inX2 (Nat.le_of_ble_eq_true rfl) wd230 rfl rfl dX3_take_15 ?_
    refine go_iload 3 dX3_take_18 rfl ?_
    refine go_aload_n 0 dX3_take_20 rfl rfl ?_
    refine go_get 3 0 0 hcX3 inX3 (Nat.le_of_ble_eq_true rfl) wd262 rfl rfl dX3_take_21 ?_
    refine go_iload_n 2 dX3_take_24 rfl rfl ?_
    refine go_iload 3 dX3_take_25 rfl ?_
    refine go_iadd dX3_take_27 ?_
    obtain ⟨o5, ho5, hF⟩ := bnd_elim hF
    refine go_callSN (As := [.ref a_cells, .int (x3 + x4)]) (rest := [.int x4, .ref b2_crews]) (wr := [(a, .inr (3, [.ref a_cells])), (b2, .inr (2, [.ref b2_crews, .int s_b2_awake, .int s_b2_hour, .int s_b2_seed])), (b2_crews, .inl (kI K, 4, .inl f_b2_crews))]) (kn_X8_at K a_cells n_a_cells f_a_cells (x3 + x4) ho5) ok_X8_at ⟨Nat.le_of_ble_eq_true rfl, Nat.le_of_ble_eq_true rfl⟩ ⟨Nat.le_of_ble_eq_true rfl, Nat.le_of_ble_eq_true rfl⟩ ns11 rfl rfl (Nat.le_of_ble_eq_true rfl) dX3_take_28 [1] [0, 2, 3] rfl rfl rfl rfl (by decide) (fun r wo hO => ?_)
    obtain ⟨rfl, rfl⟩ := hO
    refine go_ws (ws' := C_X3_take K a a_cells b2 b2_crews n_a_cells f_a_cells s_b2_awake s_b2_hour s_b2_seed f_b2_crews) [0, 3, 1, 2] rfl rfl ?_
    refine go_eq (pc' := 31) (st' := [.int o5, .int x4, .ref b2_crews]) rfl rfl ?_
    obtain ⟨o6, ho6, hF⟩ := bnd_elim hF
    refine go_callSN (As := [.ref b2_crews, .int x4, .int o5]) (rest := []) (wr := [(a, .inr (3, [.ref a_cells])), (a_cells, .inl (kI K, n_a_cells, .inl f_a_cells)), (b2, .inr (2, [.ref b2_crews, .int s_b2_awake, .int s_b2_hour, .int s_b2_seed]))]) (kn_X8_lay K b2_crews 4 f_b2_crews x4 o5 ho6) ok_X8_lay ⟨Nat.le_of_ble_eq_true rfl, Nat.le_of_ble_eq_true rfl⟩ ⟨Nat.le_of_ble_eq_true rfl, Nat.le_of_ble_eq_true rfl⟩ ns12 rfl rfl (Nat.le_of_ble_eq_true rfl) dX3_take_31 [3] [0, 1, 2] rfl rfl rfl rfl (by decide) (fun r wo hO => ?_)
    obtain ⟨rfl, rfl⟩ := hO
    refine go_ws (ws' := C_X3_take K a a_cells b2 b2_crews n_a_cells f_a_cells s_b2_awake s_b2_hour s_b2_seed o6) [0, 1, 2, 3] rfl rfl ?_
    refine go_eq (pc' := 34) (st' := []) rfl rfl ?_
    refine go_iinc 3 (fun y => [(4, .int y), (0, .ref a), (2, .ref b2), (3, .int x3)]) hF dX3_take_34 rfl rfl (Nat.le_of_ble_eq_true rfl) (fun _ => rfl) (fun v7 hF => ?_)
    refine go_goto 8 dX3_take_37 (by decide) ?_
    refine go_loc (L' := [(0, .ref a), (2, .ref b2), (3, .int x3), (4, .int v7)]) [1, 2, 3, 0] rfl ?_
    exact hk8 s_b2_awake s_b2_hour s_b2_seed o6 x3 v7 hF
theorem GL_X3_take_8 {K : gK} {X : gX} {wi : va_W} {o : Int32 × Int32 × Int32 × (Nat → Int32)} (N : Nat) (n_a_cells : Nat) (f_a_cells : Nat → Int32) (p1 : Int32) (a : Nat) (a_cells : Nat) (b2 : Nat) (b2_crews : Nat) (hR : gR K X M_X3_take wi (O_X3_take K a a_cells b2 b2_crews n_a_cells f_a_cells o))  : ∀ (fuel : Nat) (s_b2_awake : Int32) (s_b2_hour : Int32) (s_b2_seed : Int32) (f_b2_crews : Nat → Int32) (x3 : Int32) (x4 : Int32), F_X3_take_8 N n_a_cells f_a_cells p1  fuel s_b2_awake s_b2_hour s_b2_seed f_b2_crews x3 x4 = some o → Go K X M_X3_take 0 0 (C_X3_take K a a_cells b2 b2_crews n_a_cells f_a_cells s_b2_awake s_b2_hour s_b2_seed f_b2_crews) [(0, .ref a), (2, .ref b2), (3, .int x3), (4, .int x4)] 8 [] :=
  lq6_elim (fun self hs s_b2_awake s_b2_hour s_b2_seed f_b2_crews x3 x4 hF => G_X3_take_8 N n_a_cells f_a_cells p1 a a_cells b2 b2_crews hR  self hs s_b2_awake s_b2_hour s_b2_seed f_b2_crews x3 x4 hF)
noncomputable def F_X3_take (N : Nat) (n_a_cells : Nat) (f_a_cells : Nat → Int32) (s_b2_awake : Int32) (s_b2_hour : Int32) (s_b2_seed : Int32) (f_b2_crews : Nat → Int32) (p1 : Int32) : Option (Int32 × Int32 × Int32 × (Nat → Int32)) := nm ((7 : Int32) * p1) (fun v1 => F_X3_take_8 N n_a_cells f_a_cells p1 N s_b2_awake s_b2_hour s_b2_seed f_b2_crews v1 (0 : Int32))
set_option maxHeartbeats 4000000 in
theorem kn_X3_take (K : gK) (N : Nat) (a : Nat) (a_cells : Nat) (b2 : Nat) (b2_crews : Nat) (n_a_cells : Nat) (f_a_cells : Nat → Int32) (s_b2_awake : Int32) (s_b2_hour : Int32) (s_b2_seed : Int32) (f_b2_crews : Nat → Int32) (p1 : Int32) {o : Int32 × Int32 × Int32 × (Nat → Int32)} (hF : F_X3_take N n_a_cells f_a_cells s_b2_awake s_b2_hour s_b2_seed f_b2_crews p1 = some o) : Kn K M_X3_take [.ref a, .int p1, .ref b2] (C_X3_take K a a_cells b2 b2_crews n_a_cells f_a_cells s_b2_awake s_b2_hour s_b2_seed f_b2_crews) (O_X3_take K a a_cells b2 b2_crews n_a_cells f_a_cells o) := by
  refine kn_of (by decide +kernel) (Nat.le_of_ble_eq_true rfl) (fun X hR => ?_)
  refine go_loc (L' := [(0, .ref a), (1, .int p1), (2, .ref b2)]) [0, 1, 2] rfl ?_
  unfold F_X3_take at hF
  refine go_bipush (v := (7 : Int32)) dX3_take_0 (by decide) ?_
  refine go_iload_n 1 dX3_take_2 rfl rfl ?_
  refine go_imul dX3_take_3 ?_
  refine go_nmi hF (fun v1 hF => ?_)
  refine go_istore_n [(3, .int v1), (0, .ref a), (1, .int p1), (2, .ref b2)] dX3_take_4 rfl (Nat.le_of_ble_eq_true rfl) rfl ?_
  refine go_iconst (v := (0 : Int32)) dX3_take_5 (by decide) ?_
  refine go_istore [(4, .int (0 : Int32)), (3, .int v1), (0, .ref a), (1, .int p1), (2, .ref b2)] dX3_take_6 (Nat.le_of_ble_eq_true rfl) rfl ?_
  refine go_loc (L' := [(0, .ref a), (2, .ref b2), (3, .int v1), (4, .int (0 : Int32))]) [2, 4, 1, 0] rfl ?_
  exact GL_X3_take_8 N n_a_cells f_a_cells p1 a a_cells b2 b2_crews hR  N s_b2_awake s_b2_hour s_b2_seed f_b2_crews v1 (0 : Int32) hF
theorem ok_X3_take : gOkV M_X3_take 2 := ⟨⟨wd635, wd70, by decide +kernel, by decide +kernel, by decide +kernel⟩, wd633, wd634⟩

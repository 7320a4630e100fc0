def C_X0_listen (K : gK) (a : Nat) (a_pitch : Nat) (a_loud : Nat) (a_depth : Nat) (a_snoringAt : Nat) (b1 : Nat) (b1_pitch : Nat) (b1_loud : Nat) (b1_depth : Nat) (b1_from : Nat) (b1_to : Nat) (a_jarring : Nat) (b1_berths : Nat) (b1_mate : Nat) (s_a_sleepers : Int32) (f_a_pitch : Nat → Int32) (f_a_loud : Nat → Int32) (f_a_depth : Nat → Int32) (f_a_snoringAt : Nat → Int32) (s_b1_cars : Int32) (s_b1_sleepers : Int32) (s_b1_couples : Int32) (s_b1_law : Int32) (f_b1_pitch : Nat → Int32) (f_b1_loud : Nat → Int32) (f_b1_depth : Nat → Int32) (f_b1_from : Nat → Int32) (f_b1_to : Nat → Int32) : va_W := [(a, .inr (0, [.int s_a_sleepers, .ref a_pitch, .ref a_loud, .ref a_depth, .ref a_jarring, .ref a_snoringAt])), (a_pitch, .inl (kI K, 8, .inl f_a_pitch)), (a_loud, .inl (kI K, 8, .inl f_a_loud)), (a_depth, .inl (kI K, 8, .inl f_a_depth)), (a_snoringAt, .inl (kI K, 12, .inl f_a_snoringAt)), (b1, .inr (7, [.int s_b1_cars, .int s_b1_sleepers, .int s_b1_couples, .int s_b1_law, .ref b1_berths, .ref b1_pitch, .ref b1_loud, .ref b1_depth, .ref b1_from, .ref b1_to, .ref b1_mate])), (b1_pitch, .inl (kI K, 8, .inl f_b1_pitch)), (b1_loud, .inl (kI K, 8, .inl f_b1_loud)), (b1_depth, .inl (kI K, 8, .inl f_b1_depth)), (b1_from, .inl (kI K, 8, .inl f_b1_from)), (b1_to, .inl (kI K, 8, .inl f_b1_to))]
def M_X0_listen : gM := (yX0_listen, cX0_listen, 5, none, { frames := 1, cells := 0, slots := 0, locals := 23 })
def O_X0_listen (K : gK) (a : Nat) (a_pitch : Nat) (a_loud : Nat) (a_depth : Nat) (a_snoringAt : Nat) (b1 : Nat) (b1_pitch : Nat) (b1_loud : Nat) (b1_depth : Nat) (b1_from : Nat) (b1_to : Nat) (a_jarring : Nat) (b1_berths : Nat) (b1_mate : Nat) (s_b1_cars : Int32) (s_b1_couples : Int32) (s_b1_law : Int32) (s_b1_sleepers : Int32) (f_b1_pitch : Nat → Int32) (f_b1_loud : Nat → Int32) (f_b1_depth : Nat → Int32) (f_b1_from : Nat → Int32) (f_b1_to : Nat → Int32) (o : Int32 × (Nat → Int32) × (Nat → Int32) × (Nat → Int32) × (Nat → Int32)) : Option Value → va_W → Prop := fun r w => r = none ∧ w = C_X0_listen K a a_pitch a_loud a_depth a_snoringAt b1 b1_pitch b1_loud b1_depth b1_from b1_to a_jarring b1_berths b1_mate o.1 o.2.1 o.2.2.1 o.2.2.2.1 o.2.2.2.2 s_b1_cars s_b1_sleepers s_b1_couples s_b1_law f_b1_pitch f_b1_loud f_b1_depth f_b1_from f_b1_to
noncomputable def B_X0_listen_98 (N : Nat) (s_b1_sleepers : Int32) (f_b1_pitch : Nat → Int32) (f_b1_loud : Nat → Int32) (f_b1_depth : Nat → Int32) (f_b1_from : Nat → Int32) (f_b1_to : Nat → Int32) (k18 : Int32 → (Nat → Int32) → (Nat → Int32) → (Nat → Int32) → (Nat → Int32) → Int32 → Option (Int32 × (Nat → Int32) × (Nat → Int32) × (Nat → Int32) × (Nat → Int32))) (k98 : Int32 → (Nat → Int32) → (Nat → Int32) → (Nat → Int32) → (Nat → Int32) → Int32 → Int32 → Int32 → Option (Int32 × (Nat → Int32) × (Nat → Int32) × (Nat → Int32) × (Nat → Int32))) (s_a_sleepers : Int32) (f_a_pitch : Nat → Int32) (f_a_loud : Nat → Int32) (f_a_depth : Nat → Int32) (f_a_snoringAt : Nat → Int32) (x2 : Int32) (x3 : Int32) (x4 : Int32) : Option (Int32 × (Nat → Int32) × (Nat → Int32) × (Nat → Int32) × (Nat → Int32)) := if x3 ≤ x4 then nm (x2 + (1 : Int32)) (fun v11 => k18 s_a_sleepers f_a_pitch f_a_loud f_a_depth f_a_snoringAt v11) else bnd (F_X8_at 12 f_a_snoringAt x4) (fun o12 => bnd (F_X8_lay 12 f_a_snoringAt x4 (o12 ||| ((1 : Int32) <<< (x2 &&& 31)))) (fun o13 => nm (x4 + (1 : Int32)) (fun v14 => k98 s_a_sleepers f_a_pitch f_a_loud f_a_depth o13 x2 x3 v14)))
noncomputable def F_X0_listen_98 (N : Nat) (s_b1_sleepers : Int32) (f_b1_pitch : Nat → Int32) (f_b1_loud : Nat → Int32) (f_b1_depth : Nat → Int32) (f_b1_from : Nat → Int32) (f_b1_to : Nat → Int32) (k18 : Int32 → (Nat → Int32) → (Nat → Int32) → (Nat → Int32) → (Nat → Int32) → Int32 → Option (Int32 × (Nat → Int32) × (Nat → Int32) × (Nat → Int32) × (Nat → Int32))) : Nat → Int32 → (Nat → Int32) → (Nat → Int32) → (Nat → Int32) → (Nat → Int32) → Int32 → Int32 → Int32 → Option (Int32 × (Nat → Int32) × (Nat → Int32) × (Nat → Int32) × (Nat → Int32)) := lq8 (fun self => B_X0_listen_98 N s_b1_sleepers f_b1_pitch f_b1_loud f_b1_depth f_b1_from f_b1_to k18 self)
set_option maxHeartbeats 4000000 in
theorem G_X0_listen_98 {K : gK} {X : gX} {wi : va_W} {o : Int32 × (Nat → Int32) × (Nat → Int32) × (Nat → Int32) × (Nat → Int32)} (N : Nat) (s_b1_sleepers : Int32) (f_b1_pitch : Nat → Int32) (f_b1_loud : Nat → Int32) (f_b1_depth : Nat → Int32) (f_b1_from : Nat → Int32) (f_b1_to : Nat → Int32) (a : Nat) (a_pitch : Nat) (a_loud : Nat) (a_depth : Nat) (a_snoringAt : Nat) (b1 : Nat) (b1_pitch : Nat) (b1_loud : Nat) (b1_depth : Nat) (b1_from : Nat) (b1_to : Nat) (a_jarring : Nat) (b1_berths : Nat) (b1_mate : Nat) (s_b1_cars : Int32) (s_b1_couples : Int32) (s_b1_law : Int32) (hR : gR K X M_X0_listen wi (O_X0_listen K a a_pitch a_loud a_depth a_snoringAt b1 b1_pitch b1_loud b1_depth b1_from b1_to a_jarring b1_berths b1_mate s_b1_cars s_b1_couples s_b1_law s_b1_sleepers f_b1_pitch f_b1_loud f_b1_depth f_b1_from f_b1_to o)) (k18 : Int32 → (Nat → Int32) → (Nat → Int32) → (Nat → Int32) → (Nat → Int32) → Int32 → Option (Int32 × (Nat → Int32) × (Nat → Int32) × (Nat → Int32) × (Nat → Int32))) (hk18 : ∀ (s_a_sleepers : Int32) (f_a_pitch : Nat → Int32) (f_a_loud : Nat → Int32) (f_a_depth : Nat → Int32) (f_a_snoringAt : Nat → Int32) (x2 : Int32), k18 s_a_sleepers f_a_pitch f_a_loud f_a_depth f_a_snoringAt x2 = some o → Go K X M_X0_listen 0 0 (C_X0_listen K a a_pitch a_loud a_depth a_snoringAt b1 b1_pitch b1_loud b1_depth b1_from b1_to a_jarring b1_berths b1_mate s_a_sleepers f_a_pitch f_a_loud f_a_depth f_a_snoringAt s_b1_cars s_b1_sleepers s_b1_couples s_b1_law f_b1_pitch f_b1_loud f_b1_depth f_b1_from f_b1_to) [(0, .ref a), (1, .ref b1), (2, .int x2)] 18 []) (k98 : Int32 → (Nat → Int32) → (Nat → Int32) → (Nat → Int32) → (Nat → Int32) → Int32 → Int32 → Int32 → Option (Int32 × (Nat → Int32) × (Nat → Int32) × (Nat → Int32) × (Nat → Int32))) (hk98 : ∀ (s_a_sleepers : Int32) (f_a_pitch : Nat → Int32) (f_a_loud : Nat → Int32) (f_a_depth : Nat → Int32) (f_a_snoringAt : Nat → Int32) (x2 : Int32) (x3 : Int32) (x4 : Int32), k98 s_a_sleepers f_a_pitch f_a_loud f_a_depth f_a_snoringAt x2 x3 x4 = some o → Go K X M_X0_listen 0 0 (C_X0_listen K a a_pitch a_loud a_depth a_snoringAt b1 b1_pitch b1_loud b1_depth b1_from b1_to a_jarring b1_berths b1_mate s_a_sleepers f_a_pitch f_a_loud f_a_depth f_a_snoringAt s_b1_cars s_b1_sleepers s_b1_couples s_b1_law f_b1_pitch f_b1_loud f_b1_depth f_b1_from f_b1_to) [(0, .ref a), (1, .ref b1), (2, .int x2), (3, .int x3), (4, .int x4)] 98 []) (s_a_sleepers : Int32) (f_a_pitch : Nat → Int32) (f_a_loud : Nat → Int32) (f_a_depth : Nat → Int32) (f_a_snoringAt : Nat → Int32) (x2 : Int32) (x3 : Int32) (x4 : Int32) (hF : B_X0_listen_98 N s_b1_sleepers f_b1_pitch f_b1_loud f_b1_depth f_b1_from f_b1_to k18 k98 s_a_sleepers f_a_pitch f_a_loud f_a_depth f_a_snoringAt x2 x3 x4 = some o) : Go K X M_X0_listen 0 0 (C_X0_listen K a a_pitch a_loud a_depth a_snoringAt b1 b1_pitch b1_loud b1_depth b1_from b1_to a_jarring b1_berths b1_mate s_a_sleepers f_a_pitch f_a_loud f_a_depth f_a_snoringAt s_b1_cars s_b1_sleepers s_b1_couples s_b1_law f_b1_pitch f_b1_loud f_b1_depth f_b1_from f_b1_to) [(0, .ref a), (1, .ref b1), (2, .int x2), (3, .int x3), (4, .int x4)] 98 [] := by
  unfold B_X0_listen_98 at hF
  refine go_iload 4 dX0_listen_98 rfl ?_
  refine go_iload_n 3 dX0_listen_100 rfl rfl ?_
  refine go_icmp_ge 132 hF dX0_listen_101 (by decide) (fun hF => ?_) (fun hF => ?_)
  · refine go_iinc 2 (fun y => [(2, .int y), (0, .ref a), (1, .ref b1), (3, .int x3), (4, .int x4)]) hF dX0_listen_132 rfl rfl (Nat.le_of_ble_eq_true rfl) (fun _ => rfl) (fun v11 hF => ?_)
    refine go_goto 18 dX0_listen_135 (by decide) ?_
    refine go_loc (L' := [(0, .ref a), (1, .ref b1), (2, .int v11)]) [1, 2, 0] rfl ?_
    exact hk18 s_a_sleepers f_a_pitch f_a_loud f_a_depth f_a_snoringAt v11 hF
  · refine go_aload_n 0 dX0_listen_104 rfl rfl ?_
    refine go_get 0 0 5 hcX0 inX0 (Nat.le_of_ble_eq_true rfl) wd209 rfl rfl dX0_listen_105 ?_
    refine go_iload 4 dX0_listen_108 rfl ?_
    refine go_aload_n 0 dX0_listen_110 rfl rfl ?_
    refine go_get 0 0 5 hcX0 inX0 (Nat.le_of_ble_eq_true rfl) wd209 rfl rfl dX0_listen_111 ?_
    refine go_iload 4 dX0_listen_114 rfl ?_
    obtain ⟨o12, ho12, hF⟩ := bnd_elim hF
    refine go_callSN (As := [.ref a_snoringAt, .int x4]) (rest := [.int x4, .ref a_snoringAt]) (wr := [(a, .inr (0, [.int s_a_sleepers, .ref a_pitch, .ref a_loud, .ref a_depth, .ref a_jarring, .ref a_snoringAt])), (a_pitch, .inl (kI K, 8, .inl f_a_pitch)), (a_loud, .inl (kI K, 8, .inl f_a_loud)), (a_depth, .inl (kI K, 8, .inl f_a_depth)), (b1, .inr (7, [.int s_b1_cars, .int s_b1_sleepers, .int s_b1_couples, .int s_b1_law, .ref b1_berths, .ref b1_pitch, .ref b1_loud, .ref b1_depth, .ref b1_from, .ref b1_to, .ref b1_mate])), (b1_pitch, .inl (kI K, 8, .inl f_b1_pitch)), (b1_loud, .inl (kI K, 8, .inl f_b1_loud)), (b1_depth, .inl (kI K, 8, .inl f_b1_depth)), (b1_from, .inl (kI K, 8, .inl f_b1_from)), (b1_to, .inl (kI K, 8, .inl f_b1_to))]) (kn_X8_at K a_snoringAt 12 f_a_snoringAt x4 ho12) ok_X8_at ⟨Nat.le_of_ble_eq_true rfl, Nat.le_of_ble_eq_true rfl⟩ ⟨Nat.le_of_ble_eq_true rfl, Nat.le_of_ble_eq_true rfl⟩ ns8 rfl rfl (Nat.le_of_ble_eq_true rfl) dX0_listen_116 [4] [0, 1, 2, 3, 5, 6, 7, 8, 9, 10] rfl rfl rfl rfl (by decide) (fun r wo hO => ?_)
    obtain ⟨rfl, rfl⟩ := hO
    refine go_ws (ws' := C_X0_listen K a a_pitch a_loud a_depth a_snoringAt b1 b1_pitch b1_loud b1_depth b1_from b1_to a_jarring b1_berths b1_mate s_a_sleepers f_a_pitch f_a_loud f_a_depth f_a_snoringAt s_b1_cars s_b1_sleepers s_b1_couples s_b1_law f_b1_pitch f_b1_loud f_b1_depth f_b1_from f_b1_to) [0, 1, 2, 3, 10, 4, 5, 6, 7, 8, 9] rfl rfl ?_
    refine go_eq (pc' := 119) (st' := [.int o12, .int x4, .ref a_snoringAt]) rfl rfl ?_
    refine go_iconst (v := (1 : Int32)) dX0_listen_119 (by decide) ?_
    refine go_iload_n 2 dX0_listen_120 rfl rfl ?_
    refine go_ishl dX0_listen_121 ?_
    refine go_ior dX0_listen_122 ?_
    obtain ⟨o13, ho13, hF⟩ := bnd_elim hF
    refine go_callSN (As := [.ref a_snoringAt, .int x4, .int (o12 ||| ((1 : Int32) <<< (x2 &&& 31)))]) (rest := []) (wr := [(a, .inr (0, [.int s_a_sleepers, .ref a_pitch, .ref a_loud, .ref a_depth, .ref a_jarring, .ref a_snoringAt])), (a_pitch, .inl (kI K, 8, .inl f_a_pitch)), (a_loud, .inl (kI K, 8, .inl f_a_loud)), (a_depth, .inl (kI K, 8, .inl f_a_depth)), (b1, .inr (7, [.int s_b1_cars, .int s_b1_sleepers, .int s_b1_couples, .int s_b1_law, .ref b1_berths, .ref b1_pitch, .ref b1_loud, .ref b1_depth, .ref b1_from, .ref b1_to, .ref b1_mate])), (b1_pitch, .inl (kI K, 8, .inl f_b1_pitch)), (b1_loud, .inl (kI K, 8, .inl f_b1_loud)), (b1_depth, .inl (kI K, 8, .inl f_b1_depth)), (b1_from, .inl (kI K, 8, .inl f_b1_from)), (b1_to, .inl (kI K, 8, .inl f_b1_to))]) (kn_X8_lay K a_snoringAt 12 f_a_snoringAt x4 (o12 ||| ((1 : Int32) <<< (x2 &&& 31))) ho13) ok_X8_lay ⟨Nat.le_of_ble_eq_true rfl, Nat.le_of_ble_eq_true rfl⟩ ⟨Nat.le_of_ble_eq_true rfl, Nat.le_of_ble_eq_true rfl⟩ ns9 rfl rfl (Nat.le_of_ble_eq_true rfl) dX0_listen_123 [4] [0, 1, 2, 3, 5, 6, 7, 8, 9, 10] rfl rfl rfl rfl (by decide) (fun r wo hO => ?_)
    obtain ⟨rfl, rfl⟩ := hO
    refine go_ws (ws' := C_X0_listen K a a_pitch a_loud a_depth a_snoringAt b1 b1_pitch b1_loud b1_depth b1_from b1_to a_jarring b1_berths b1_mate s_a_sleepers f_a_pitch f_a_loud f_a_depth o13 s_b1_cars s_b1_sleepers s_b1_couples s_b1_law f_b1_pitch f_b1_loud f_b1_depth f_b1_from f_b1_to) [0, 1, 2, 3, 10, 4, 5, 6, 7, 8, 9] rfl rfl ?_
    refine go_eq (pc' := 126) (st' := []) rfl rfl ?_
    refine go_iinc 4 (fun y => [(4, .int y), (0, .ref a), (1, .ref b1), (2, .int x2), (3, .int x3)]) hF dX0_listen_126 rfl rfl (Nat.le_of_ble_eq_true rfl) (fun _ => rfl) (fun v14 hF => ?_)
    refine go_goto 98 dX0_listen_129 (by decide) ?_
    refine go_loc (L' := [(0, .ref a), (1, .ref b1), (2, .int x2), (3, .int x3), (4, .int v14)]) [1, 2, 3, 4, 0] rfl ?_
    exact hk98 s_a_sleepers f_a_pitch f_a_loud f_a_depth o13 x2 x3 v14 hF
theorem GL_X0_listen_98 {K : gK} {X : gX} {wi : va_W} {o : Int32 × (Nat → Int32) × (Nat → Int32) × (Nat → Int32) × (Nat → Int32)} (N : Nat) (s_b1_sleepers : Int32) (f_b1_pitch : Nat → Int32) (f_b1_loud : Nat → Int32) (f_b1_depth : Nat → Int32) (f_b1_from : Nat → Int32) (f_b1_to : Nat → Int32) (a : Nat) (a_pitch : Nat) (a_loud : Nat) (a_depth : Nat) (a_snoringAt : Nat) (b1 : Nat) (b1_pitch : Nat) (b1_loud : Nat) (b1_depth : Nat) (b1_from : Nat) (b1_to : Nat) (a_jarring : Nat) (b1_berths : Nat) (b1_mate : Nat) (s_b1_cars : Int32) (s_b1_couples : Int32) (s_b1_law : Int32) (hR : gR K X M_X0_listen wi (O_X0_listen K a a_pitch a_loud a_depth a_snoringAt b1 b1_pitch b1_loud b1_depth b1_from b1_to a_jarring b1_berths b1_mate s_b1_cars s_b1_couples s_b1_law s_b1_sleepers f_b1_pitch f_b1_loud f_b1_depth f_b1_from f_b1_to o)) (k18 : Int32 → (Nat → Int32) → (Nat → Int32) → (Nat → Int32) → (Nat → Int32) → Int32 → Option (Int32 × (Nat → Int32) × (Nat → Int32) × (Nat → Int32) × (Nat → Int32))) (hk18 : ∀ (s_a_sleepers : Int32) (f_a_pitch : Nat → Int32) (f_a_loud : Nat → Int32) (f_a_depth : Nat → Int32) (f_a_snoringAt : Nat → Int32) (x2 : Int32), k18 s_a_sleepers f_a_pitch f_a_loud f_a_depth f_a_snoringAt x2 = some o → Go K X M_X0_listen 0 0 (C_X0_listen K a a_pitch a_loud a_depth a_snoringAt b1 b1_pitch b1_loud b1_depth b1_from b1_to a_jarring b1_berths b1_mate s_a_sleepers f_a_pitch f_a_loud f_a_depth f_a_snoringAt s_b1_cars s_b1_sleepers s_b1_couples s_b1_law f_b1_pitch f_b1_loud f_b1_depth f_b1_from f_b1_to) [(0, .ref a), (1, .ref b1), (2, .int x2)] 18 []) : ∀ (fuel : Nat) (s_a_sleepers : Int32) (f_a_pitch : Nat → Int32) (f_a_loud : Nat → Int32) (f_a_depth : Nat → Int32) (f_a_snoringAt : Nat → Int32) (x2 : Int32) (x3 : Int32) (x4 : Int32), F_X0_listen_98 N s_b1_sleepers f_b1_pitch f_b1_loud f_b1_depth f_b1_from f_b1_to k18 fuel s_a_sleepers f_a_pitch f_a_loud f_a_depth f_a_snoringAt x2 x3 x4 = some o → Go K X M_X0_listen 0 0 (C_X0_listen K a a_pitch a_loud a_depth a_snoringAt b1 b1_pitch b1_loud b1_depth b1_from b1_to a_jarring b1_berths b1_mate s_a_sleepers f_a_pitch f_a_loud f_a_depth f_a_snoringAt s_b1_cars s_b1_sleepers s_b1_couples s_b1_law f_b1_pitch f_b1_loud f_b1_depth f_b1_from f_b1_to) [(0, .ref a), (1, .ref b1), (2, .int x2), (3, .int x3), (4, .int x4)] 98 [] :=
  lq8_elim (fun self hs s_a_sleepers f_a_pitch f_a_loud f_a_depth f_a_snoringAt x2 x3 x4 hF => G_X0_listen_98 N s_b1_sleepers f_b1_pitch f_b1_loud f_b1_depth f_b1_from f_b1_to a a_pitch a_loud a_depth a_snoringAt b1 b1_pitch b1_loud b1_depth b1_from b1_to a_jarring b1_berths b1_mate s_b1_cars s_b1_couples s_b1_law hR k18 hk18 self hs s_a_sleepers f_a_pitch f_a_loud f_a_depth f_a_snoringAt x2 x3 x4 hF)
noncomputable def B_X0_listen_18 (N : Nat) (s_b1_sleepers : Int32) (f_b1_pitch : Nat → Int32) (f_b1_loud : Nat → Int32) (f_b1_depth : Nat → Int32) (f_b1_from : Nat → Int32) (f_b1_to : Nat → Int32) (k18 : Int32 → (Nat → Int32) → (Nat → Int32) → (Nat → Int32) → (Nat → Int32) → Int32 → Option (Int32 × (Nat → Int32) × (Nat → Int32) × (Nat → Int32) × (Nat → Int32))) (s_a_sleepers : Int32) (f_a_pitch : Nat → Int32) (f_a_loud : Nat → Int32) (f_a_depth : Nat → Int32) (f_a_snoringAt : Nat → Int32) (x2 : Int32) : Option (Int32 × (Nat → Int32) × (Nat → Int32) × (Nat → Int32) × (Nat → Int32)) := if s_a_sleepers ≤ x2 then some (s_a_sleepers, f_a_pitch, f_a_loud, f_a_depth, f_a_snoringAt) else bnd (F_X8_at 8 f_b1_pitch x2) (fun o2 => bnd (F_X8_lay 8 f_a_pitch x2 o2) (fun o3 => bnd (F_X8_at 8 f_b1_loud x2) (fun o4 => bnd (F_X8_lay 8 f_a_loud x2 o4) (fun o5 => bnd (F_X8_at 8 f_b1_depth x2) (fun o6 => bnd (F_X8_lay 8 f_a_depth x2 o6) (fun o7 => bnd (F_X8_at 8 f_b1_to x2) (fun o8 => nm (if (12 : Int32) < o8 then (12 : Int32) else o8) (fun v9 => bnd (F_X8_at 8 f_b1_from x2) (fun o10 => F_X0_listen_98 N s_b1_sleepers f_b1_pitch f_b1_loud f_b1_depth f_b1_from f_b1_to k18 N s_a_sleepers o3 o5 o7 f_a_snoringAt x2 v9 o10)))))))))
noncomputable def F_X0_listen_18 (N : Nat) (s_b1_sleepers : Int32) (f_b1_pitch : Nat → Int32) (f_b1_loud : Nat → Int32) (f_b1_depth : Nat → Int32) (f_b1_from : Nat → Int32) (f_b1_to : Nat → Int32)  : Nat → Int32 → (Nat → Int32) → (Nat → Int32) → (Nat → Int32) → (Nat → Int32) → Int32 → Option (Int32 × (Nat → Int32) × (Nat → Int32) × (Nat → Int32) × (Nat → Int32)) := lq6 (fun self => B_X0_listen_18 N s_b1_sleepers f_b1_pitch f_b1_loud f_b1_depth f_b1_from f_b1_to  self)
set_option maxHeartbeats 4000000 in
theorem G_X0_listen_18 {K : gK} {X : gX} {wi : va_W} {o : Int32 × (Nat → Int32) × (Nat → Int32) × (Nat → Int32) × (Nat → Int32)} (N : Nat) (s_b1_sleepers : Int32) (f_b1_pitch : Nat → Int32) (f_b1_loud : Nat → Int32) (f_b1_depth : Nat → Int32) (f_b1_from : Nat → Int32) (f_b1_to : Nat → Int32) (a : Nat) (a_pitch : Nat) (a_loud : Nat) (a_depth : Nat) (a_snoringAt : Nat) (b1 : Nat) (b1_pitch : Nat) (b1_loud : Nat) (b1_depth : Nat) (b1_from : Nat) (b1_to : Nat) (a_jarring : Nat) (b1_berths : Nat) (b1_mate : Nat) (s_b1_cars : Int32) (s_b1_couples : Int32) (s_b1_law : Int32) (hR : gR K X M_X0_listen wi (O_X0_listen K a a_pitch a_loud a_depth a_snoringAt b1 b1_pitch b1_loud b1_depth b1_from b1_to a_jarring b1_berths b1_mate s_b1_cars s_b1_couples s_b1_law s_b1_sleepers f_b1_pitch f_b1_loud f_b1_depth f_b1_from f_b1_to o)) (k18 : Int32 → (Nat → Int32) → (Nat → Int32) → (Nat → Int32) → (Nat → Int32) → Int32 → Option (Int32 × (Nat → Int32) × (Nat → Int32) × (Nat → Int32) × (Nat → Int32))) (hk18 : ∀ (s_a_sleepers : Int32) (f_a_pitch : Nat → Int32) (f_a_loud : Nat → Int32) (f_a_depth : Nat → Int32) (f_a_snoringAt : Nat → Int32) (x2 : Int32), k18 s_a_sleepers f_a_pitch f_a_loud f_a_depth f_a_snoringAt x2 = some o → Go K X M_X0_listen 0 0 (C_X0_listen K a a_pitch a_loud a_depth a_snoringAt b1 b1_pitch b1_loud b1_depth b1_from b1_to a_jarring b1_berths b1_mate s_a_sleepers f_a_pitch f_a_loud f_a_depth f_a_snoringAt s_b1_cars s_b1_sleepers s_b1_couples s_b1_law f_b1_pitch f_b1_loud f_b1_depth f_b1_from f_b1_to) [(0, .ref a), (1, .ref b1), (2, .int x2)] 18 []) (s_a_sleepers : Int32) (f_a_pitch : Nat → Int32) (f_a_loud : Nat → Int32) (f_a_depth : Nat → Int32) (f_a_snoringAt : Nat → Int32) (x2 : Int32) (hF : B_X0_listen_18 N s_b1_sleepers f_b1_pitch f_b1_loud f_b1_depth f_b1_from f_b1_to k18 s_a_sleepers f_a_pitch f_a_loud f_a_depth f_a_snoringAt x2 = some o) : Go K X M_X0_listen 0 0 (C_X0_listen K a a_pitch a_loud a_depth a_snoringAt b1 b1_pitch b1_loud b1_depth b1_from b1_to a_jarring b1_berths b1_mate s_a_sleepers f_a_pitch f_a_loud f_a_depth f_a_snoringAt s_b1_cars s_b1_sleepers s_b1_couples s_b1_law f_b1_pitch f_b1_loud f_b1_depth f_b1_from f_b1_to) [(0, .ref a), (1, .ref b1), (2, .int x2)] 18 [] := by
  unfold B_X0_listen_18 at hF
  refine go_iload_n 2 dX0_listen_18 rfl rfl ?_
  refine go_aload_n 0 dX0_listen_19 rfl rfl ?_
  refine go_get 0 0 0 hcX0 inX0 (Nat.le_of_ble_eq_true rfl) wd203 rfl rfl dX0_listen_20 ?_
  refine go_icmp_ge 138 hF dX0_listen_23 (by decide) (fun hF => ?_) (fun hF => ?_)
  · exact go_vret (Om := O_X0_listen K a a_pitch a_loud a_depth a_snoringAt b1 b1_pitch b1_loud b1_depth b1_from b1_to a_jarring b1_berths b1_mate s_b1_cars s_b1_couples s_b1_law s_b1_sleepers f_b1_pitch f_b1_loud f_b1_depth f_b1_from f_b1_to) hR hF dX0_listen_138 rfl (Nat.zero_le _) (Nat.zero_le _) ⟨rfl, rfl⟩
  · refine go_aload_n 0 dX0_listen_26 rfl rfl ?_
    refine go_get 0 0 1 hcX0 inX0 (Nat.le_of_ble_eq_true rfl) wd204 rfl rfl dX0_listen_27 ?_
    refine go_iload_n 2 dX0_listen_30 rfl rfl ?_
    refine go_aload_n 1 dX0_listen_31 rfl rfl ?_
    refine go_get 7 5 5 hcX7 inX7 (Nat.le_of_ble_eq_true rfl) wd151 rfl rfl dX0_listen_32 ?_
    refine go_iload_n 2 dX0_listen_35 rfl rfl ?_
    obtain ⟨o2, ho2, hF⟩ := bnd_elim hF
    refine go_callSN (As := [.ref b1_pitch, .int x2]) (rest := [.int x2, .ref a_pitch]) (wr := [(a, .inr (0, [.int s_a_sleepers, .ref a_pitch, .ref a_loud, .ref a_depth, .ref a_jarring, .ref a_snoringAt])), (a_pitch, .inl (kI K, 8, .inl f_a_pitch)), (a_loud, .inl (kI K, 8, .inl f_a_loud)), (a_depth, .inl (kI K, 8, .inl f_a_depth)), (a_snoringAt, .inl (kI K, 12, .inl f_a_snoringAt)), (b1, .inr (7, [.int s_b1_cars, .int s_b1_sleepers, .int s_b1_couples, .int s_b1_law, .ref b1_berths, .ref b1_pitch, .ref b1_loud, .ref b1_depth, .ref b1_from, .ref b1_to, .ref b1_mate])), (b1_loud, .inl (kI K, 8, .inl f_b1_loud)), (b1_depth, .inl (kI K, 8, .inl f_b1_depth)), (b1_from, .inl (kI K, 8, .inl f_b1_from)), (b1_to, .inl (kI K, 8, .inl f_b1_to))]) (kn_X8_at K b1_pitch 8 f_b1_pitch x2 ho2) ok_X8_at ⟨Nat.le_of_ble_eq_true rfl, Nat.le_of_ble_eq_true rfl⟩ ⟨Nat.le_of_ble_eq_true rfl, Nat.le_of_ble_eq_true rfl⟩ ns8 rfl rfl (Nat.le_of_ble_eq_true rfl) dX0_listen_36 [6] [0, 1, 2, 3, 4, 5, 7, 8, 9, 10] rfl rfl rfl rfl (by decide) (fun r wo hO => ?_)
    obtain ⟨rfl, rfl⟩ := hO
    refine go_ws (ws' := C_X0_listen K a a_pitch a_loud a_depth a_snoringAt b1 b1_pitch b1_loud b1_depth b1_from b1_to a_jarring b1_berths b1_mate s_a_sleepers f_a_pitch f_a_loud f_a_depth f_a_snoringAt s_b1_cars s_b1_sleepers s_b1_couples s_b1_law f_b1_pitch f_b1_loud f_b1_depth f_b1_from f_b1_to) [0, 1, 2, 3, 4, 5, 10, 6, 7, 8, 9] rfl rfl ?_
    refine go_eq (pc' := 39) (st' := [.int o2, .int x2, .ref a_pitch]) rfl rfl ?_
    obtain ⟨o3, ho3, hF⟩ := bnd_elim hF
    refine go_callSN (As := [.ref a_pitch, .int x2, .int o2]) (rest := []) (wr := [(a, .inr (0, [.int s_a_sleepers, .ref a_pitch, .ref a_loud, .ref a_depth, .ref a_jarring, .ref a_snoringAt])), (a_loud, .inl (kI K, 8, .inl f_a_loud)), (a_depth, .inl (kI K, 8, .inl f_a_depth)), (a_snoringAt, .inl (kI K, 12, .inl f_a_snoringAt)), (b1, .inr (7, [.int s_b1_cars, .int s_b1_sleepers, .int s_b1_couples, .int s_b1_law, .ref b1_berths, .ref b1_pitch, .ref b1_loud, .ref b1_depth, .ref b1_from, .ref b1_to, .ref b1_mate])), (b1_pitch, .inl (kI K, 8, .inl f_b1_pitch)), (b1_loud, .inl (kI K, 8, .inl f_b1_loud)), (b1_depth, .inl (kI K, 8, .inl f_b1_depth)), (b1_from, .inl (kI K, 8, .inl f_b1_from)), (b1_to, .inl (kI K, 8, .inl f_b1_to))]) (kn_X8_lay K a_pitch 8 f_a_pitch x2 o2 ho3) ok_X8_lay ⟨Nat.le_of_ble_eq_true rfl, Nat.le_of_ble_eq_true rfl⟩ ⟨Nat.le_of_ble_eq_true rfl, Nat.le_of_ble_eq_true rfl⟩ ns9 rfl rfl (Nat.le_of_ble_eq_true rfl) dX0_listen_39 [1] [0, 2, 3, 4, 5, 6, 7, 8, 9, 10] rfl rfl rfl rfl (by decide) (fun r wo hO => ?_)
    obtain ⟨rfl, rfl⟩ := hO
    refine go_ws (ws' := C_X0_listen K a a_pitch a_loud a_depth a_snoringAt b1 b1_pitch b1_loud b1_depth b1_from b1_to a_jarring b1_berths b1_mate s_a_sleepers o3 f_a_loud f_a_depth f_a_snoringAt s_b1_cars s_b1_sleepers s_b1_couples s_b1_law f_b1_pitch f_b1_loud f_b1_depth f_b1_from f_b1_to) [0, 10, 1, 2, 3, 4, 5, 6, 7, 8, 9] rfl rfl ?_
    refine go_eq (pc' := 42) (st' := []) rfl rfl ?_
    refine go_aload_n 0 dX0_listen_42 rfl rfl ?_
    refine go_get 0 0 2 hcX0 inX0 (Nat.le_of_ble_eq_true rfl) wd206 rfl rfl dX0_listen_43 ?_
    refine go_iload_n 2 dX0_listen_46 rfl rfl ?_
    refine go_aload_n 1 dX0_listen_47 rfl rfl ?_
    refine go_get 7 5 6 hcX7 inX7 (Nat.le_of_ble_eq_true rfl) wd155 rfl rfl dX0_listen_48 ?_
    refine go_iload_n 2 dX0_listen_51 rfl rfl ?_
    obtain ⟨o4, ho4, hF⟩ := bnd_elim hF
    refine go_callSN (As := [.ref b1_loud, .int x2]) (rest := [.int x2, .ref a_loud]) (wr := [(a, .inr (0, [.int s_a_sleepers, .ref a_pitch, .ref a_loud, .ref a_depth, .ref a_jarring, .ref a_snoringAt])), (a_pitch, .inl (kI K, 8, .inl o3)), (a_loud, .inl (kI K, 8, .inl f_a_loud)), (a_depth, .inl (kI K, 8, .inl f_a_depth)), (a_snoringAt, .inl (kI K, 12, .inl f_a_snoringAt)), (b1, .inr (7, [.int s_b1_cars, .int s_b1_sleepers, .int s_b1_couples, .int s_b1_law, .ref b1_berths, .ref b1_pitch, .ref b1_loud, .ref b1_depth, .ref b1_from, .ref b1_to, .ref b1_mate])), (b1_pitch, .inl (kI K, 8, .inl f_b1_pitch)), (b1_depth, .inl (kI K, 8, .inl f_b1_depth)), (b1_from, .inl (kI K, 8, .inl f_b1_from)), (b1_to, .inl (kI K, 8, .inl f_b1_to))]) (kn_X8_at K b1_loud 8 f_b1_loud x2 ho4) ok_X8_at ⟨Nat.le_of_ble_eq_true rfl, Nat.le_of_ble_eq_true rfl⟩ ⟨Nat.le_of_ble_eq_true rfl, Nat.le_of_ble_eq_true rfl⟩ ns8 rfl rfl (Nat.le_of_ble_eq_true rfl) dX0_listen_52 [7] [0, 1, 2, 3, 4, 5, 6, 8, 9, 10] rfl rfl rfl rfl (by decide) (fun r wo hO => ?_)
    obtain ⟨rfl, rfl⟩ := hO
    refine go_ws (ws' := C_X0_listen K a a_pitch a_loud a_depth a_snoringAt b1 b1_pitch b1_loud b1_depth b1_from b1_to a_jarring b1_berths b1_mate s_a_sleepers o3 f_a_loud f_a_depth f_a_snoringAt s_b1_cars s_b1_sleepers s_b1_couples s_b1_law f_b1_pitch f_b1_loud f_b1_depth f_b1_from f_b1_to) [0, 1, 2, 3, 4, 5, 6, 10, 7, 8, 9] rfl rfl ?_
    refine go_eq (pc' := 55) (st' := [.int o4, .int x2, .ref a_loud]) rfl rfl ?_
    obtain ⟨o5, ho5, hF⟩ := bnd_elim hF
    refine go_callSN (As := [.ref a_loud, .int x2, .int o4]) (rest := []) (wr := [(a, .inr (0, [.int s_a_sleepers, .ref a_pitch, .ref a_loud, .ref a_depth, .ref a_jarring, .ref a_snoringAt])), (a_pitch, .inl (kI K, 8, .inl o3)), (a_depth, .inl (kI K, 8, .inl f_a_depth)), (a_snoringAt, .inl (kI K, 12, .inl f_a_snoringAt)), (b1, .inr (7, [.int s_b1_cars, .int s_b1_sleepers, .int s_b1_couples, .int s_b1_law, .ref b1_berths, .ref b1_pitch, .ref b1_loud, .ref b1_depth, .ref b1_from, .ref b1_to, .ref b1_mate])), (b1_pitch, .inl (kI K, 8, .inl f_b1_pitch)), (b1_loud, .inl (kI K, 8, .inl f_b1_loud)), (b1_depth, .inl (kI K, 8, .inl f_b1_depth)), (b1_from, .inl (kI K, 8, .inl f_b1_from)), (b1_to, .inl (kI K, 8, .inl f_b1_to))]) (kn_X8_lay K a_loud 8 f_a_loud x2 o4 ho5) ok_X8_lay ⟨Nat.le_of_ble_eq_true rfl, Nat.le_of_ble_eq_true rfl⟩ ⟨Nat.le_of_ble_eq_true rfl, Nat.le_of_ble_eq_true rfl⟩ ns9 rfl rfl (Nat.le_of_ble_eq_true rfl) dX0_listen_55 [2] [0, 1, 3, 4, 5, 6, 7, 8, 9, 10] rfl rfl rfl rfl (by decide) (fun r wo hO => ?_)
    obtain ⟨rfl, rfl⟩ := hO
    refine go_ws (ws' := C_X0_listen K a a_pitch a_loud a_depth a_snoringAt b1 b1_pitch b1_loud b1_depth b1_from b1_to a_jarring b1_berths b1_mate s_a_sleepers o3 o5 f_a_depth f_a_snoringAt s_b1_cars s_b1_sleepers s_b1_couples s_b1_law f_b1_pitch f_b1_loud f_b1_depth f_b1_from f_b1_to) [0, 1, 10, 2, 3, 4, 5, 6, 7, 8, 9] rfl rfl ?_
    refine go_eq (pc' := 58) (st' := []) rfl rfl ?_
    refine go_aload_n 0 dX0_listen_58 rfl rfl ?_
    refine go_get 0 0 3 hcX0 inX0 (Nat.le_of_ble_eq_true rfl) wd207 rfl rfl dX0_listen_59 ?_
    refine go_iload_n 2 dX0_listen_62 rfl rfl ?_
    refine go_aload_n 1 dX0_listen_63 rfl rfl ?_
    refine go_get 7 5 7 hcX7 inX7 (Nat.le_of_ble_eq_true rfl) wd159 rfl rfl dX0_listen_64 ?_
    refine go_iload_n 2 dX0_listen_67 rfl rfl ?_
    obtain ⟨o6, ho6, hF⟩ := bnd_elim hF
    refine go_callSN (As := [.ref b1_depth, .int x2]) (rest := [.int x2, .ref a_depth]) (wr := [(a, .inr (0, [.int s_a_sleepers, .ref a_pitch, .ref a_loud, .ref a_depth, .ref a_jarring, .ref a_snoringAt])), (a_pitch, .inl (kI K, 8, .inl o3)), (a_loud, .inl (kI K, 8, .inl o5)), (a_depth, .inl (kI K, 8, .inl f_a_depth)), (a_snoringAt, .inl (kI K, 12, .inl f_a_snoringAt)), (b1, .inr (7, [.int s_b1_cars, .int s_b1_sleepers, .int s_b1_couples, .int s_b1_law, .ref b1_berths, .ref b1_pitch, .ref b1_loud, .ref b1_depth, .ref b1_from, .ref b1_to, .ref b1_mate])), (b1_pitch, .inl (kI K, 8, .inl f_b1_pitch)), (b1_loud, .inl (kI K, 8, .inl f_b1_loud)), (b1_from, .inl (kI K, 8, .inl f_b1_from)), (b1_to, .inl (kI K, 8, .inl f_b1_to))]) (kn_X8_at K b1_depth 8 f_b1_depth x2 ho6) ok_X8_at ⟨Nat.le_of_ble_eq_true rfl, Nat.le_of_ble_eq_true rfl⟩ ⟨Nat.le_of_ble_eq_true rfl, Nat.le_of_ble_eq_true rfl⟩ ns8 rfl rfl (Nat.le_of_ble_eq_true rfl) dX0_listen_68 [8] [0, 1, 2, 3, 4, 5, 6, 7, 9, 10] rfl rfl rfl rfl (by decide) (fun r wo hO => ?_)
    obtain ⟨rfl, rfl⟩ := hO
    refine go_ws (ws' := C_X0_listen K a a_pitch a_loud a_depth a_snoringAt b1 b1_pitch b1_loud b1_depth b1_from b1_to a_jarring b1_berths b1_mate s_a_sleepers o3 o5 f_a_depth f_a_snoringAt s_b1_cars s_b1_sleepers s_b1_couples s_b1_law f_b1_pitch f_b1_loud f_b1_depth f_b1_from f_b1_to) [0, 1, 2, 3, 4, 5, 6, 7, 10, 8, 9] rfl rfl ?_
    refine go_eq (pc' := 71) (st' := [.int o6, .int x2, .ref a_depth]) rfl rfl ?_
    obtain ⟨o7, ho7, hF⟩ := bnd_elim hF
    refine go_callSN (As := [.ref a_depth, .int x2, .int o6]) (rest := []) (wr := [(a, .inr (0, [.int s_a_sleepers, .ref a_pitch, .ref a_loud, .ref a_depth, .ref a_jarring, .ref a_snoringAt])), (a_pitch, .inl (kI K, 8, .inl o3)), (a_loud, .inl (kI K, 8, .inl o5)), (a_snoringAt, .inl (kI K, 12, .inl f_a_snoringAt)), (b1, .inr (7, [.int s_b1_cars, .int s_b1_sleepers, .int s_b1_couples, .int s_b1_law, .ref b1_berths, .ref b1_pitch, .ref b1_loud, .ref b1_depth, .ref b1_from, .ref b1_to, .ref b1_mate])), (b1_pitch, .inl (kI K, 8, .inl f_b1_pitch)), (b1_loud, .inl (kI K, 8, .inl f_b1_loud)), (b1_depth, .inl (kI K, 8, .inl f_b1_depth)), (b1_from, .inl (kI K, 8, .inl f_b1_from)), (b1_to, .inl (kI K, 8, .inl f_b1_to))]) (kn_X8_lay K a_depth 8 f_a_depth x2 o6 ho7) ok_X8_lay ⟨Nat.le_of_ble_eq_true rfl, Nat.le_of_ble_eq_true rfl⟩ ⟨Nat.le_of_ble_eq_true rfl, Nat.le_of_ble_eq_true rfl⟩ ns9 rfl rfl (Nat.le_of_ble_eq_true rfl) dX0_listen_71 [3] [0, 1, 2, 4, 5, 6, 7, 8, 9, 10] rfl rfl rfl rfl (by decide) (fun r wo hO => ?_)
    obtain ⟨rfl, rfl⟩ := hO
    refine go_ws (ws' := C_X0_listen K a a_pitch a_loud a_depth a_snoringAt b1 b1_pitch b1_loud b1_depth b1_from b1_to a_jarring b1_berths b1_mate s_a_sleepers o3 o5 o7 f_a_snoringAt s_b1_cars s_b1_sleepers s_b1_couples s_b1_law f_b1_pitch f_b1_loud f_b1_depth f_b1_from f_b1_to) [0, 1, 2, 10, 3, 4, 5, 6, 7, 8, 9] rfl rfl ?_
    refine go_eq (pc' := 74) (st' := []) rfl rfl ?_
    refine go_aload_n 1 dX0_listen_74 rfl rfl ?_
    refine go_get 7 5 9 hcX7 inX7 (Nat.le_of_ble_eq_true rfl) wd167 rfl rfl dX0_listen_75 ?_
    refine go_iload_n 2 dX0_listen_78 rfl rfl ?_
    obtain ⟨o8, ho8, hF⟩ := bnd_elim hF
    refine go_callSN (As := [.ref b1_to, .int x2]) (rest := []) (wr := [(a, .inr (0, [.int s_a_sleepers, .ref a_pitch, .ref a_loud, .ref a_depth, .ref a_jarring, .ref a_snoringAt])), (a_pitch, .inl (kI K, 8, .inl o3)), (a_loud, .inl (kI K, 8, .inl o5)), (a_depth, .inl (kI K, 8, .inl o7)), (a_snoringAt, .inl (kI K, 12, .inl f_a_snoringAt)), (b1, .inr (7, [.int s_b1_cars, .int s_b1_sleepers, .int s_b1_couples, .int s_b1_law, .ref b1_berths, .ref b1_pitch, .ref b1_loud, .ref b1_depth, .ref b1_from, .ref b1_to, .ref b1_mate])), (b1_pitch, .inl (kI K, 8, .inl f_b1_pitch)), (b1_loud, .inl (kI K, 8, .inl f_b1_loud)), (b1_depth, .inl (kI K, 8, .inl f_b1_depth)), (b1_from, .inl (kI K, 8, .inl f_b1_from))]) (kn_X8_at K b1_to 8 f_b1_to x2 ho8) ok_X8_at ⟨Nat.le_of_ble_eq_true rfl, Nat.le_of_ble_eq_true rfl⟩ ⟨Nat.le_of_ble_eq_true rfl, Nat.le_of_ble_eq_true rfl⟩ ns8 rfl rfl (Nat.le_of_ble_eq_true rfl) dX0_listen_79 [10] [0, 1, 2, 3, 4, 5, 6, 7, 8, 9] rfl rfl rfl rfl (by decide) (fun r wo hO => ?_)
    obtain ⟨rfl, rfl⟩ := hO
    refine go_ws (ws' := C_X0_listen K a a_pitch a_loud a_depth a_snoringAt b1 b1_pitch b1_loud b1_depth b1_from b1_to a_jarring b1_berths b1_mate s_a_sleepers o3 o5 o7 f_a_snoringAt s_b1_cars s_b1_sleepers s_b1_couples s_b1_law f_b1_pitch f_b1_loud f_b1_depth f_b1_from f_b1_to) [0, 1, 2, 3, 4, 5, 6, 7, 8, 9, 10] rfl rfl ?_
    refine go_eq (pc' := 82) (st' := [.int o8]) rfl rfl ?_
    refine go_bipush (v := (12 : Int32)) dX0_listen_82 (by decide) ?_
    refine go_mmin wd481 (Nat.le_of_ble_eq_true rfl) (Nat.le_of_ble_eq_true rfl) (Nat.zero_le _) (Nat.zero_le _) dX0_listen_84 ?_
    refine go_nmi hF (fun v9 hF => ?_)
    refine go_istore_n [(3, .int v9), (0, .ref a), (1, .ref b1), (2, .int x2)] dX0_listen_87 rfl (Nat.le_of_ble_eq_true rfl) rfl ?_
    refine go_aload_n 2 dX0_listen_88 rfl rfl ?_
    refine go_get 7 5 8 hcX7 inX7 (Nat.le_of_ble_eq_true rfl) wd163 rfl rfl dX0_listen_89 ?_
    refine go_iload_n 3 dX0_listen_92 rfl rfl ?_
    obtain ⟨o10, ho10, hF⟩ := bnd_elim hF
    refine go_callSN (As := [.ref b1_from, .int x2]) (rest := []) (wr := [(a, .inr (0, [.int s_a_sleepers, .ref a_pitch, .ref a_loud, .ref a_depth, .ref a_jarring, .ref a_snoringAt])), (a_pitch, .inl (kI K, 8, .inl o3)), (a_loud, .inl (kI K, 8, .inl o5)), (a_depth, .inl (kI K, 8, .inl o7)), (a_snoringAt, .inl (kI K, 12, .inl f_a_snoringAt)), (b1, .inr (7, [.int s_b1_cars, .int s_b1_sleepers, .int s_b1_couples, .int s_b1_law, .ref b1_berths, .ref b1_pitch, .ref b1_loud, .ref b1_depth, .ref b1_from, .ref b1_to, .ref b1_mate])), (b1_pitch, .inl (kI K, 8, .inl f_b1_pitch)), (b1_loud, .inl (kI K, 8, .inl f_b1_loud)), (b1_depth, .inl (kI K, 8, .inl f_b1_depth)), (b1_to, .inl (kI K, 8, .inl f_b1_to))]) (kn_X8_at K b1_from 8 f_b1_from x2 ho10) ok_X8_at ⟨Nat.le_of_ble_eq_true rfl, Nat.le_of_ble_eq_true rfl⟩ ⟨Nat.le_of_ble_eq_true rfl, Nat.le_of_ble_eq_true rfl⟩ ns8 rfl rfl (Nat.le_of_ble_eq_true rfl) dX0_listen_93 [9] [0, 1, 2, 3, 4, 5, 6, 7, 8, 10] rfl rfl rfl rfl (by decide) (fun r wo hO => ?_)
    obtain ⟨rfl, rfl⟩ := hO
    refine go_ws (ws' := C_X0_listen K a a_pitch a_loud a_depth a_snoringAt b1 b1_pitch b1_loud b1_depth b1_from b1_to a_jarring b1_berths b1_mate s_a_sleepers o3 o5 o7 f_a_snoringAt s_b1_cars s_b1_sleepers s_b1_couples s_b1_law f_b1_pitch f_b1_loud f_b1_depth f_b1_from f_b1_to) [0, 1, 2, 3, 4, 5, 6, 7, 8, 10, 9] rfl rfl ?_
    refine go_eq (pc' := 96) (st' := [.int o10]) rfl rfl ?_
    refine go_istore [(4, .int o10), (3, .int v9), (0, .ref a), (1, .ref b1), (2, .int x2)] dX0_listen_96 (Nat.le_of_ble_eq_true rfl) rfl ?_
    refine go_loc (L' := [(0, .ref a), (1, .ref b1), (2, .int x2), (3, .int v9), (4, .int o10)]) [2, 3, 4, 1, 0] rfl ?_
    exact GL_X0_listen_98 N s_b1_sleepers f_b1_pitch f_b1_loud f_b1_depth f_b1_from f_b1_to a a_pitch a_loud a_depth a_snoringAt b1 b1_pitch b1_loud b1_depth b1_from b1_to a_jarring b1_berths b1_mate s_b1_cars s_b1_couples s_b1_law hR k18 hk18 N s_a_sleepers o3 o5 o7 f_a_snoringAt x2 v9 o10 hF
theorem GL_X0_listen_18 {K : gK} {X : gX} {wi : va_W} {o : Int32 × (Nat → Int32) × (Nat → Int32) × (Nat → Int32) × (Nat → Int32)} (N : Nat) (s_b1_sleepers : Int32) (f_b1_pitch : Nat → Int32) (f_b1_loud : Nat → Int32) (f_b1_depth : Nat → Int32) (f_b1_from : Nat → Int32) (f_b1_to : Nat → Int32) (a : Nat) (a_pitch : Nat) (a_loud : Nat) (a_depth : Nat) (a_snoringAt : Nat) (b1 : Nat) (b1_pitch : Nat) (b1_loud : Nat) (b1_depth : Nat) (b1_from : Nat) (b1_to : Nat) (a_jarring : Nat) (b1_berths : Nat) (b1_mate : Nat) (s_b1_cars : Int32) (s_b1_couples : Int32) (s_b1_law : Int32) (hR : gR K X M_X0_listen wi (O_X0_listen K a a_pitch a_loud a_depth a_snoringAt b1 b1_pitch b1_loud b1_depth b1_from b1_to a_jarring b1_berths b1_mate s_b1_cars s_b1_couples s_b1_law s_b1_sleepers f_b1_pitch f_b1_loud f_b1_depth f_b1_from f_b1_to o))  : ∀ (fuel : Nat) (s_a_sleepers : Int32) (f_a_pitch : Nat → Int32) (f_a_loud : Nat → Int32) (f_a_depth : Nat → Int32) (f_a_snoringAt : Nat → Int32) (x2 : Int32), F_X0_listen_18 N s_b1_sleepers f_b1_pitch f_b1_loud f_b1_depth f_b1_from f_b1_to  fuel s_a_sleepers f_a_pitch f_a_loud f_a_depth f_a_snoringAt x2 = some o → Go K X M_X0_listen 0 0 (C_X0_listen K a a_pitch a_loud a_depth a_snoringAt b1 b1_pitch b1_loud b1_depth b1_from b1_to a_jarring b1_berths b1_mate s_a_sleepers f_a_pitch f_a_loud f_a_depth f_a_snoringAt s_b1_cars s_b1_sleepers s_b1_couples s_b1_law f_b1_pitch f_b1_loud f_b1_depth f_b1_from f_b1_to) [(0, .ref a), (1, .ref b1), (2, .int x2)] 18 [] :=
  lq6_elim (fun self hs s_a_sleepers f_a_pitch f_a_loud f_a_depth f_a_snoringAt x2 hF => G_X0_listen_18 N s_b1_sleepers f_b1_pitch f_b1_loud f_b1_depth f_b1_from f_b1_to a a_pitch a_loud a_depth a_snoringAt b1 b1_pitch b1_loud b1_depth b1_from b1_to a_jarring b1_berths b1_mate s_b1_cars s_b1_couples s_b1_law hR  self hs s_a_sleepers f_a_pitch f_a_loud f_a_depth f_a_snoringAt x2 hF)
noncomputable def F_X0_listen (N : Nat) (s_a_sleepers : Int32) (f_a_pitch : Nat → Int32) (f_a_loud : Nat → Int32) (f_a_depth : Nat → Int32) (f_a_snoringAt : Nat → Int32) (s_b1_sleepers : Int32) (f_b1_pitch : Nat → Int32) (f_b1_loud : Nat → Int32) (f_b1_depth : Nat → Int32) (f_b1_from : Nat → Int32) (f_b1_to : Nat → Int32) : Option (Int32 × (Nat → Int32) × (Nat → Int32) × (Nat → Int32) × (Nat → Int32)) := bnd (F_J7_fill_53178 N 12 f_a_snoringAt (0 : Int32)) (fun o1 => F_X0_listen_18 N s_b1_sleepers f_b1_pitch f_b1_loud f_b1_depth f_b1_from f_b1_to N s_b1_sleepers f_a_pitch f_a_loud f_a_depth o1 (0 : Int32))
set_option maxHeartbeats 4000000 in
theorem kn_X0_listen (K : gK) (N : Nat) (a : Nat) (a_pitch : Nat) (a_loud : Nat) (a_depth : Nat) (a_snoringAt : Nat) (b1 : Nat) (b1_pitch : Nat) (b1_loud : Nat) (b1_depth : Nat) (b1_from : Nat) (b1_to : Nat) (a_jarring : Nat) (b1_berths : Nat) (b1_mate : Nat) (s_b1_cars : Int32) (s_b1_couples : Int32) (s_b1_law : Int32) (s_a_sleepers : Int32) (f_a_pitch : Nat → Int32) (f_a_loud : Nat → Int32) (f_a_depth : Nat → Int32) (f_a_snoringAt : Nat → Int32) (s_b1_sleepers : Int32) (f_b1_pitch : Nat → Int32) (f_b1_loud : Nat → Int32) (f_b1_depth : Nat → Int32) (f_b1_from : Nat → Int32) (f_b1_to : Nat → Int32) {o : Int32 × (Nat → Int32) × (Nat → Int32) × (Nat → Int32) × (Nat → Int32)} (hF : F_X0_listen N s_a_sleepers f_a_pitch f_a_loud f_a_depth f_a_snoringAt s_b1_sleepers f_b1_pitch f_b1_loud f_b1_depth f_b1_from f_b1_to = some o) : Kn K M_X0_listen [.ref a, .ref b1] (C_X0_listen K a a_pitch a_loud a_depth a_snoringAt b1 b1_pitch b1_loud b1_depth b1_from b1_to a_jarring b1_berths b1_mate s_a_sleepers f_a_pitch f_a_loud f_a_depth f_a_snoringAt s_b1_cars s_b1_sleepers s_b1_couples s_b1_law f_b1_pitch f_b1_loud f_b1_depth f_b1_from f_b1_to) (O_X0_listen K a a_pitch a_loud a_depth a_snoringAt b1 b1_pitch b1_loud b1_depth b1_from b1_to a_jarring b1_berths b1_mate s_b1_cars s_b1_couples s_b1_law s_b1_sleepers f_b1_pitch f_b1_loud f_b1_depth f_b1_from f_b1_to o) := by
  refine kn_of (by decide +kernel) (Nat.le_of_ble_eq_true rfl) (fun X hR => ?_)
  refine go_loc (L' := [(0, .ref a), (1, .ref b1)]) [0, 1] rfl ?_
  unfold F_X0_listen at hF
  refine go_aload_n 0 dX0_listen_0 rfl rfl ?_
  refine go_aload_n 1 dX0_listen_1 rfl rfl ?_
  refine go_get 7 5 1 hcX7 inX7 (Nat.le_of_ble_eq_true rfl) wd134 rfl rfl dX0_listen_2 ?_
  refine go_put 0 0 0 (C_X0_listen K a a_pitch a_loud a_depth a_snoringAt b1 b1_pitch b1_loud b1_depth b1_from b1_to a_jarring b1_berths b1_mate s_b1_sleepers f_a_pitch f_a_loud f_a_depth f_a_snoringAt s_b1_cars s_b1_sleepers s_b1_couples s_b1_law f_b1_pitch f_b1_loud f_b1_depth f_b1_from f_b1_to) hcX0 inX0 tyX0_ok nmX0 (Nat.le_of_ble_eq_true rfl) wd203 rfl rfl rfl rfl (Nat.le_of_ble_eq_true rfl) rfl dX0_listen_5 ?_
  refine go_aload_n 0 dX0_listen_8 rfl rfl ?_
  refine go_get 0 0 5 hcX0 inX0 (Nat.le_of_ble_eq_true rfl) wd209 rfl rfl dX0_listen_9 ?_
  refine go_iconst (v := (0 : Int32)) dX0_listen_12 (by decide) ?_
  obtain ⟨o1, ho1, hF⟩ := bnd_elim hF
  refine go_callS (As := [.ref a_snoringAt, .int (0 : Int32)]) (rest := []) (wr := [(a, .inr (0, [.int s_b1_sleepers, .ref a_pitch, .ref a_loud, .ref a_depth, .ref a_jarring, .ref a_snoringAt])), (a_pitch, .inl (kI K, 8, .inl f_a_pitch)), (a_loud, .inl (kI K, 8, .inl f_a_loud)), (a_depth, .inl (kI K, 8, .inl f_a_depth)), (b1, .inr (7, [.int s_b1_cars, .int s_b1_sleepers, .int s_b1_couples, .int s_b1_law, .ref b1_berths, .ref b1_pitch, .ref b1_loud, .ref b1_depth, .ref b1_from, .ref b1_to, .ref b1_mate])), (b1_pitch, .inl (kI K, 8, .inl f_b1_pitch)), (b1_loud, .inl (kI K, 8, .inl f_b1_loud)), (b1_depth, .inl (kI K, 8, .inl f_b1_depth)), (b1_from, .inl (kI K, 8, .inl f_b1_from)), (b1_to, .inl (kI K, 8, .inl f_b1_to))]) (kn_J7_fill_53178 K N a_snoringAt 12 f_a_snoringAt (0 : Int32) ho1) ok_J7_fill_53178 ⟨Nat.le_of_ble_eq_true rfl, Nat.le_of_ble_eq_true rfl⟩ ⟨Nat.le_of_ble_eq_true rfl, Nat.le_of_ble_eq_true rfl⟩ wd478 rfl rfl (Nat.le_of_ble_eq_true rfl) dX0_listen_13 [4] [0, 1, 2, 3, 5, 6, 7, 8, 9, 10] rfl rfl rfl rfl (by decide) (fun r wo hO => ?_)
  obtain ⟨rfl, rfl⟩ := hO
  refine go_ws (ws' := C_X0_listen K a a_pitch a_loud a_depth a_snoringAt b1 b1_pitch b1_loud b1_depth b1_from b1_to a_jarring b1_berths b1_mate s_b1_sleepers f_a_pitch f_a_loud f_a_depth o1 s_b1_cars s_b1_sleepers s_b1_couples s_b1_law f_b1_pitch f_b1_loud f_b1_depth f_b1_from f_b1_to) [0, 1, 2, 3, 10, 4, 5, 6, 7, 8, 9] rfl rfl ?_
  refine go_eq (pc' := 16) (st' := []) rfl rfl ?_
  refine go_iconst (v := (0 : Int32)) dX0_listen_16 (by decide) ?_
  refine go_istore_n [(2, .int (0 : Int32)), (0, .ref a), (1, .ref b1)] dX0_listen_17 rfl (Nat.le_of_ble_eq_true rfl) rfl ?_
  refine go_loc (L' := [(0, .ref a), (1, .ref b1), (2, .int (0 : Int32))]) [1, 2, 0] rfl ?_
  exact GL_X0_listen_18 N s_b1_sleepers f_b1_pitch f_b1_loud f_b1_depth f_b1_from f_b1_to a a_pitch a_loud a_depth a_snoringAt b1 b1_pitch b1_loud b1_depth b1_from b1_to a_jarring b1_berths b1_mate s_b1_cars s_b1_couples s_b1_law hR  N s_b1_sleepers f_a_pitch f_a_loud f_a_depth o1 (0 : Int32) hF
theorem ok_X0_listen : gOkV M_X0_listen 1 := ⟨⟨wd477, wd68, by decide +kernel, by decide +kernel, by decide +kernel⟩, wd475, wd476⟩
def C_X0_tune (K : gK) (a : Nat) (a_pitch : Nat) (a_jarring : Nat) (a_loud : Nat) (a_depth : Nat) (a_snoringAt : Nat) (s_a_sleepers : Int32) (f_a_pitch : Nat → Int32) (f_a_jarring : Nat → Int32) : va_W := [(a, .inr (0, [.int s_a_sleepers, .ref a_pitch, .ref a_loud, .ref a_depth, .ref a_jarring, .ref a_snoringAt])), (a_pitch, .inl (kI K, 8, .inl f_a_pitch)), (a_jarring, .inl (kI K, 8, .inl f_a_jarring))]
def M_X0_tune : gM := (yX0_tune, cX0_tune, 6, none, { frames := 2, cells := 0, slots := 0, locals := 43 })
def O_X0_tune (K : gK) (a : Nat) (a_pitch : Nat) (a_jarring : Nat) (a_loud : Nat) (a_depth : Nat) (a_snoringAt : Nat) (s_a_sleepers : Int32) (f_a_pitch : Nat → Int32) (o : (Nat → Int32)) : Option Value → va_W → Prop := fun r w => r = none ∧ w = C_X0_tune K a a_pitch a_jarring a_loud a_depth a_snoringAt s_a_sleepers f_a_pitch o
noncomputable def B_X0_tune_57 (N : Nat) (s_a_sleepers : Int32) (f_a_pitch : Nat → Int32) (p1 : Int32) (k2 : (Nat → Int32) → Int32 → Option ((Nat → Int32))) (k15 : (Nat → Int32) → Int32 → Int32 → Int32 → Option ((Nat → Int32))) (f_a_jarring : Nat → Int32) (x2 : Int32) (x3 : Int32) (x4 : Int32) (z0 : Int32) : Option ((Nat → Int32)) := if x4 = x2 then nm (x4 + (1 : Int32)) (fun v6 => k15 f_a_jarring x2 x3 v6) else if z0 = 0 then nm (x3 ||| ((1 : Int32) <<< (x4 &&& 31))) (fun v8 => nm (x4 + (1 : Int32)) (fun v9 => k15 f_a_jarring x2 v8 v9)) else nm (x4 + (1 : Int32)) (fun v7 => k15 f_a_jarring x2 x3 v7)
set_option maxHeartbeats 4000000 in
theorem G_X0_tune_57 {K : gK} {X : gX} {wi : va_W} {o : (Nat → Int32)} (N : Nat) (s_a_sleepers : Int32) (f_a_pitch : Nat → Int32) (p1 : Int32) (a : Nat) (a_pitch : Nat) (a_jarring : Nat) (a_loud : Nat) (a_depth : Nat) (a_snoringAt : Nat) (hR : gR K X M_X0_tune wi (O_X0_tune K a a_pitch a_jarring a_loud a_depth a_snoringAt s_a_sleepers f_a_pitch o)) (k2 : (Nat → Int32) → Int32 → Option ((Nat → Int32))) (hk2 : ∀ (f_a_jarring : Nat → Int32) (x2 : Int32), k2 f_a_jarring x2 = some o → Go K X M_X0_tune 0 0 (C_X0_tune K a a_pitch a_jarring a_loud a_depth a_snoringAt s_a_sleepers f_a_pitch f_a_jarring) [(0, .ref a), (1, .int p1), (2, .int x2)] 2 []) (k15 : (Nat → Int32) → Int32 → Int32 → Int32 → Option ((Nat → Int32))) (hk15 : ∀ (f_a_jarring : Nat → Int32) (x2 : Int32) (x3 : Int32) (x4 : Int32), k15 f_a_jarring x2 x3 x4 = some o → Go K X M_X0_tune 0 0 (C_X0_tune K a a_pitch a_jarring a_loud a_depth a_snoringAt s_a_sleepers f_a_pitch f_a_jarring) [(0, .ref a), (1, .int p1), (2, .int x2), (3, .int x3), (4, .int x4)] 15 []) (f_a_jarring : Nat → Int32) (x2 : Int32) (x3 : Int32) (x4 : Int32) (z0 : Int32) (hF : B_X0_tune_57 N s_a_sleepers f_a_pitch p1 k2 k15 f_a_jarring x2 x3 x4 z0 = some o) : Go K X M_X0_tune 0 0 (C_X0_tune K a a_pitch a_jarring a_loud a_depth a_snoringAt s_a_sleepers f_a_pitch f_a_jarring) [(0, .ref a), (1, .int p1), (2, .int x2), (3, .int x3), (4, .int x4)] 57 [.int z0] := by
  unfold B_X0_tune_57 at hF
  refine go_istore [(5, .int z0), (0, .ref a), (1, .int p1), (2, .int x2), (3, .int x3), (4, .int x4)] dX0_tune_57 (Nat.le_of_ble_eq_true rfl) rfl ?_
  refine go_iload 5 dX0_tune_59 rfl ?_
  refine go_iload_n 3 dX0_tune_61 rfl rfl ?_
  refine go_icmp_eq 77 hF dX0_tune_62 (by decide) (fun hF => ?_) (fun hF => ?_)
  · refine go_iinc 5 (fun y => [(4, .int y), (5, .int z0), (0, .ref a), (1, .int p1), (2, .int x2), (3, .int x3)]) hF dX0_tune_77 rfl rfl (Nat.le_of_ble_eq_true rfl) (fun _ => rfl) (fun v6 hF => ?_)
    refine go_goto 15 dX0_tune_80 (by decide) ?_
    refine go_loc (L' := [(0, .ref a), (1, .int p1), (2, .int x2), (3, .int x3), (4, .int v6)]) [2, 3, 4, 5, 0] rfl ?_
    exact hk15 f_a_jarring x2 x3 v6 hF
  · refine go_iload 0 dX0_tune_65 rfl ?_
    refine go_if_ne 77 hF dX0_tune_67 (by decide) (fun hF => ?_) (fun hF => ?_)
    · refine go_iinc 5 (fun y => [(4, .int y), (5, .int z0), (0, .ref a), (1, .int p1), (2, .int x2), (3, .int x3)]) hF dX0_tune_77 rfl rfl (Nat.le_of_ble_eq_true rfl) (fun _ => rfl) (fun v7 hF => ?_)
      refine go_goto 15 dX0_tune_80 (by decide) ?_
      refine go_loc (L' := [(0, .ref a), (1, .int p1), (2, .int x2), (3, .int x3), (4, .int v7)]) [2, 3, 4, 5, 0] rfl ?_
      exact hk15 f_a_jarring x2 x3 v7 hF
    · refine go_iload_n 4 dX0_tune_70 rfl rfl ?_
      refine go_iconst (v := (1 : Int32)) dX0_tune_71 (by decide) ?_
      refine go_iload 5 dX0_tune_72 rfl ?_
      refine go_ishl dX0_tune_74 ?_
      refine go_ior dX0_tune_75 ?_
      refine go_nmi hF (fun v8 hF => ?_)
      refine go_istore_n [(3, .int v8), (5, .int z0), (0, .ref a), (1, .int p1), (2, .int x2), (4, .int x4)] dX0_tune_76 rfl (Nat.le_of_ble_eq_true rfl) rfl ?_
      refine go_iinc 5 (fun y => [(4, .int y), (3, .int v8), (5, .int z0), (0, .ref a), (1, .int p1), (2, .int x2)]) hF dX0_tune_77 rfl rfl (Nat.le_of_ble_eq_true rfl) (fun _ => rfl) (fun v9 hF => ?_)
      refine go_goto 15 dX0_tune_80 (by decide) ?_
      refine go_loc (L' := [(0, .ref a), (1, .int p1), (2, .int x2), (3, .int v8), (4, .int v9)]) [3, 4, 5, 1, 0] rfl ?_
      exact hk15 f_a_jarring x2 v8 v9 hF
noncomputable def B_X0_tune_15 (N : Nat) (s_a_sleepers : Int32) (f_a_pitch : Nat → Int32) (p1 : Int32) (k2 : (Nat → Int32) → Int32 → Option ((Nat → Int32))) (k15 : (Nat → Int32) → Int32 → Int32 → Int32 → Option ((Nat → Int32))) (f_a_jarring : Nat → Int32) (x2 : Int32) (x3 : Int32) (x4 : Int32) : Option ((Nat → Int32)) := if s_a_sleepers ≤ x4 then bnd (F_X8_lay 8 f_a_jarring x2 x3) (fun o1 => nm (x2 + (1 : Int32)) (fun v2 => k2 o1 v2)) else bnd (F_X8_at 8 f_a_pitch x2) (fun o3 => bnd (F_X8_at 8 f_a_pitch x4) (fun o4 => bnd (F_X8_apart o3 o4) (fun o5 => if ((p1 >>> (o5 &&& 31)) &&& (1 : Int32)) = (1 : Int32) then B_X0_tune_57 N s_a_sleepers f_a_pitch p1 k2 k15 f_a_jarring x2 x3 x4 (1 : Int32) else B_X0_tune_57 N s_a_sleepers f_a_pitch p1 k2 k15 f_a_jarring x2 x3 x4 (0 : Int32))))
noncomputable def F_X0_tune_15 (N : Nat) (s_a_sleepers : Int32) (f_a_pitch : Nat → Int32) (p1 : Int32) (k2 : (Nat → Int32) → Int32 → Option ((Nat → Int32))) : Nat → (Nat → Int32) → Int32 → Int32 → Int32 → Option ((Nat → Int32)) := lq4 (fun self => B_X0_tune_15 N s_a_sleepers f_a_pitch p1 k2 self)
set_option maxHeartbeats 4000000 in
theorem G_X0_tune_15 {K : gK} {X : gX} {wi : va_W} {o : (Nat → Int32)} (N : Nat) (s_a_sleepers : Int32) (f_a_pitch : Nat → Int32) (p1 : Int32) (a : Nat) (a_pitch : Nat) (a_jarring : Nat) (a_loud : Nat) (a_depth : Nat) (a_snoringAt : Nat) (hR : gR K X M_X0_tune wi (O_X0_tune K a a_pitch a_jarring a_loud a_depth a_snoringAt s_a_sleepers f_a_pitch o)) (k2 : (Nat → Int32) → Int32 → Option ((Nat → Int32))) (hk2 : ∀ (f_a_jarring : Nat → Int32) (x2 : Int32), k2 f_a_jarring x2 = some o → Go K X M_X0_tune 0 0 (C_X0_tune K a a_pitch a_jarring a_loud a_depth a_snoringAt s_a_sleepers f_a_pitch f_a_jarring) [(0, .ref a), (1, .int p1), (2, .int x2)] 2 []) (k15 : (Nat → Int32) → Int32 → Int32 → Int32 → Option ((Nat → Int32))) (hk15 : ∀ (f_a_jarring : Nat → Int32) (x2 : Int32) (x3 : Int32) (x4 : Int32), k15 f_a_jarring x2 x3 x4 = some o → Go K X M_X0_tune 0 0 (C_X0_tune K a a_pitch a_jarring a_loud a_depth a_snoringAt s_a_sleepers f_a_pitch f_a_jarring) [(0, .ref a), (1, .int p1), (2, .int x2), (3, .int x3), (4, .int x4)] 15 []) (f_a_jarring : Nat → Int32) (x2 : Int32) (x3 : Int32) (x4 : Int32) (hF : B_X0_tune_15 N s_a_sleepers f_a_pitch p1 k2 k15 f_a_jarring x2 x3 x4 = some o) : Go K X M_X0_tune 0 0 (C_X0_tune K a a_pitch a_jarring a_loud a_depth a_snoringAt s_a_sleepers f_a_pitch f_a_jarring) [(0, .ref a), (1, .int p1), (2, .int x2), (3, .int x3), (4, .int x4)] 15 [] := by
  unfold B_X0_tune_15 at hF
  refine go_iload 4 dX0_tune_15 rfl ?_
  refine go_aload_n 0 dX0_tune_17 rfl rfl ?_
  refine go_get 0 0 0 hcX0 inX0 (Nat.le_of_ble_eq_true rfl) wd203 rfl rfl dX0_tune_18 ?_
  refine go_icmp_ge 83 hF dX0_tune_21 (by decide) (fun hF => ?_) (fun hF => ?_)
  · refine go_aload_n 0 dX0_tune_83 rfl rfl ?_
    refine go_get 0 0 4 hcX0 inX0 (Nat.le_of_ble_eq_true rfl) wd208 rfl rfl dX0_tune_84 ?_
    refine go_iload_n 2 dX0_tune_87 rfl rfl ?_
    refine go_iload_n 3 dX0_tune_88 rfl rfl ?_
    obtain ⟨o1, ho1, hF⟩ := bnd_elim hF
    refine go_callSN (As := [.ref a_jarring, .int x2, .int x3]) (rest := []) (wr := [(a, .inr (0, [.int s_a_sleepers, .ref a_pitch, .ref a_loud, .ref a_depth, .ref a_jarring, .ref a_snoringAt])), (a_pitch, .inl (kI K, 8, .inl f_a_pitch))]) (kn_X8_lay K a_jarring 8 f_a_jarring x2 x3 ho1) ok_X8_lay ⟨Nat.le_of_ble_eq_true rfl, Nat.le_of_ble_eq_true rfl⟩ ⟨Nat.le_of_ble_eq_true rfl, Nat.le_of_ble_eq_true rfl⟩ ns9 rfl rfl (Nat.le_of_ble_eq_true rfl) dX0_tune_89 [2] [0, 1] rfl rfl rfl rfl (by decide) (fun r wo hO => ?_)
    obtain ⟨rfl, rfl⟩ := hO
    refine go_ws (ws' := C_X0_tune K a a_pitch a_jarring a_loud a_depth a_snoringAt s_a_sleepers f_a_pitch o1) [0, 1, 2] rfl rfl ?_
    refine go_eq (pc' := 92) (st' := []) rfl rfl ?_
    refine go_iinc 2 (fun y => [(2, .int y), (0, .ref a), (1, .int p1), (3, .int x3), (4, .int x4)]) hF dX0_tune_92 rfl rfl (Nat.le_of_ble_eq_true rfl) (fun _ => rfl) (fun v2 hF => ?_)
    refine go_goto 2 dX0_tune_95 (by decide) ?_
    refine go_loc (L' := [(0, .ref a), (1, .int p1), (2, .int v2)]) [1, 2, 0] rfl ?_
    exact hk2 o1 v2 hF
  · refine go_iload_n 1 dX0_tune_24 rfl rfl ?_
    refine go_aload_n 0 dX0_tune_25 rfl rfl ?_
    refine go_get 0 0 1 hcX0 inX0 (Nat.le_of_ble_eq_true rfl) wd204 rfl rfl dX0_tune_26 ?_
    refine go_iload_n 2 dX0_tune_29 rfl rfl ?_
    obtain ⟨o3, ho3, hF⟩ := bnd_elim hF
    refine go_callSN (As := [.ref a_pitch, .int x2]) (rest := [.int p1]) (wr := [(a, .inr (0, [.int s_a_sleepers, .ref a_pitch, .ref a_loud, .ref a_depth, .ref a_jarring, .ref a_snoringAt])), (a_jarring, .inl (kI K, 8, .inl f_a_jarring))]) (kn_X8_at K a_pitch 8 f_a_pitch x2 ho3) ok_X8_at ⟨Nat.le_of_ble_eq_true rfl, Nat.le_of_ble_eq_true rfl⟩ ⟨Nat.le_of_ble_eq_true rfl, Nat.le_of_ble_eq_true rfl⟩ ns8 rfl rfl (Nat.le_of_ble_eq_true rfl) dX0_tune_30 [1] [0, 2] rfl rfl rfl rfl (by decide) (fun r wo hO => ?_)
    obtain ⟨rfl, rfl⟩ := hO
    refine go_ws (ws' := C_X0_tune K a a_pitch a_jarring a_loud a_depth a_snoringAt s_a_sleepers f_a_pitch f_a_jarring) [0, 2, 1] rfl rfl ?_
    refine go_eq (pc' := 33) (st' := [.int o3, .int p1]) rfl rfl ?_
    refine go_aload_n 0 dX0_tune_33 rfl rfl ?_
    refine go_get 0 0 1 hcX0 inX0 (Nat.le_of_ble_eq_true rfl) wd204 rfl rfl dX0_tune_34 ?_
    refine go_iload 4 dX0_tune_37 rfl ?_
    obtain ⟨o4, ho4, hF⟩ := bnd_elim hF
    refine go_callSN (As := [.ref a_pitch, .int x4]) (rest := [.int o3, .int p1]) (wr := [(a, .inr (0, [.int s_a_sleepers, .ref a_pitch, .ref a_loud, .ref a_depth, .ref a_jarring, .ref a_snoringAt])), (a_jarring, .inl (kI K, 8, .inl f_a_jarring))]) (kn_X8_at K a_pitch 8 f_a_pitch x4 ho4) ok_X8_at ⟨Nat.le_of_ble_eq_true rfl, Nat.le_of_ble_eq_true rfl⟩ ⟨Nat.le_of_ble_eq_true rfl, Nat.le_of_ble_eq_true rfl⟩ ns8 rfl rfl (Nat.le_of_ble_eq_true rfl) dX0_tune_39 [1] [0, 2] rfl rfl rfl rfl (by decide) (fun r wo hO => ?_)
    obtain ⟨rfl, rfl⟩ := hO
    refine go_ws (ws' := C_X0_tune K a a_pitch a_jarring a_loud a_depth a_snoringAt s_a_sleepers f_a_pitch f_a_jarring) [0, 2, 1] rfl rfl ?_
    refine go_eq (pc' := 42) (st' := [.int o4, .int o3, .int p1]) rfl rfl ?_
    obtain ⟨o5, ho5, hF⟩ := bnd_elim hF
    refine go_callSN (As := [.int o3, .int o4]) (rest := [.int p1]) (wr := [(a, .inr (0, [.int s_a_sleepers, .ref a_pitch, .ref a_loud, .ref a_depth, .ref a_jarring, .ref a_snoringAt])), (a_pitch, .inl (kI K, 8, .inl f_a_pitch)), (a_jarring, .inl (kI K, 8, .inl f_a_jarring))]) (kn_X8_apart K o3 o4 ho5) ok_X8_apart ⟨Nat.le_of_ble_eq_true rfl, Nat.le_of_ble_eq_true rfl⟩ ⟨Nat.le_of_ble_eq_true rfl, Nat.le_of_ble_eq_true rfl⟩ ns10 rfl rfl (Nat.le_of_ble_eq_true rfl) dX0_tune_42 [] [0, 1, 2] rfl rfl rfl rfl (by decide) (fun r wo hO => ?_)
    obtain ⟨rfl, rfl⟩ := hO
    refine go_ws (ws' := C_X0_tune K a a_pitch a_jarring a_loud a_depth a_snoringAt s_a_sleepers f_a_pitch f_a_jarring) [0, 1, 2] rfl rfl ?_
    refine go_eq (pc' := 45) (st' := [.int o5, .int p1]) rfl rfl ?_
    refine go_ishr dX0_tune_45 ?_
    refine go_iconst (v := (1 : Int32)) dX0_tune_46 (by decide) ?_
    refine go_iand dX0_tune_47 ?_
    refine go_iconst (v := (1 : Int32)) dX0_tune_48 (by decide) ?_
    refine go_icmp_ne 56 hF dX0_tune_49 (by decide) (fun hF => ?_) (fun hF => ?_)
    · refine go_iconst (v := (0 : Int32)) dX0_tune_56 (by decide) ?_
      exact G_X0_tune_57 N s_a_sleepers f_a_pitch p1 a a_pitch a_jarring a_loud a_depth a_snoringAt hR k2 hk2 k15 hk15 f_a_jarring x2 x3 x4 (0 : Int32) hF
    · refine go_iconst (v := (1 : Int32)) dX0_tune_52 (by decide) ?_
      refine go_goto 57 dX0_tune_53 (by decide) ?_
      exact G_X0_tune_57 N s_a_sleepers f_a_pitch p1 a a_pitch a_jarring a_loud a_depth a_snoringAt hR k2 hk2 k15 hk15 f_a_jarring x2 x3 x4 (1 : Int32) hF
theorem GL_X0_tune_15 {K : gK} {X : gX} {wi : va_W} {o : (Nat → Int32)} (N : Nat) (s_a_sleepers : Int32) (f_a_pitch : Nat → Int32) (p1 : Int32) (a : Nat) (a_pitch : Nat) (a_jarring : Nat) (a_loud : Nat) (a_depth : Nat) (a_snoringAt : Nat) (hR : gR K X M_X0_tune wi (O_X0_tune K a a_pitch a_jarring a_loud a_depth a_snoringAt s_a_sleepers f_a_pitch o)) (k2 : (Nat → Int32) → Int32 → Option ((Nat → Int32))) (hk2 : ∀ (f_a_jarring : Nat → Int32) (x2 : Int32), k2 f_a_jarring x2 = some o → Go K X M_X0_tune 0 0 (C_X0_tune K a a_pitch a_jarring a_loud a_depth a_snoringAt s_a_sleepers f_a_pitch f_a_jarring) [(0, .ref a), (1, .int p1), (2, .int x2)] 2 []) : ∀ (fuel : Nat) (f_a_jarring : Nat → Int32) (x2 : Int32) (x3 : Int32) (x4 : Int32), F_X0_tune_15 N s_a_sleepers f_a_pitch p1 k2 fuel f_a_jarring x2 x3 x4 = some o → Go K X M_X0_tune 0 0 (C_X0_tune K a a_pitch a_jarring a_loud a_depth a_snoringAt s_a_sleepers f_a_pitch f_a_jarring) [(0, .ref a), (1, .int p1), (2, .int x2), (3, .int x3), (4, .int x4)] 15 [] :=
  lq4_elim (fun self hs f_a_jarring x2 x3 x4 hF => G_X0_tune_15 N s_a_sleepers f_a_pitch p1 a a_pitch a_jarring a_loud a_depth a_snoringAt hR k2 hk2 self hs f_a_jarring x2 x3 x4 hF)
noncomputable def B_X0_tune_2 (N : Nat) (s_a_sleepers : Int32) (f_a_pitch : Nat → Int32) (p1 : Int32) (k2 : (Nat → Int32) → Int32 → Option ((Nat → Int32))) (f_a_jarring : Nat → Int32) (x2 : Int32) : Option ((Nat → Int32)) := if s_a_sleepers ≤ x2 then some f_a_jarring else F_X0_tune_15 N s_a_sleepers f_a_pitch p1 k2 N f_a_jarring x2 (0 : Int32) (0 : Int32)
noncomputable def F_X0_tune_2 (N : Nat) (s_a_sleepers : Int32) (f_a_pitch : Nat → Int32) (p1 : Int32)  : Nat → (Nat → Int32) → Int32 → Option ((Nat → Int32)) := lq2 (fun self => B_X0_tune_2 N s_a_sleepers f_a_pitch p1  self)
set_option maxHeartbeats 4000000 in
theorem G_X0_tune_2 {K : gK} {X : gX} {wi : va_W} {o : (Nat → Int32)} (N : Nat) (s_a_sleepers : Int32) (f_a_pitch : Nat → Int32) (p1 : Int32) (a : Nat) (a_pitch : Nat) (a_jarring : Nat) (a_loud : Nat) (a_depth : Nat) (a_snoringAt : Nat) (hR : gR K X M_X0_tune wi (O_X0_tune K a a_pitch a_jarring a_loud a_depth a_snoringAt s_a_sleepers f_a_pitch o)) (k2 : (Nat → Int32) → Int32 → Option ((Nat → Int32))) (hk2 : ∀ (f_a_jarring : Nat → Int32) (x2 : Int32), k2 f_a_jarring x2 = some o → Go K X M_X0_tune 0 0 (C_X0_tune K a a_pitch a_jarring a_loud a_depth a_snoringAt s_a_sleepers f_a_pitch f_a_jarring) [(0, .ref a), (1, .int p1), (2, .int x2)] 2 []) (f_a_jarring : Nat → Int32) (x2 : Int32) (hF : B_X0_tune_2 N s_a_sleepers f_a_pitch p1 k2 f_a_jarring x2 = some o) : Go K X M_X0_tune 0 0 (C_X0_tune K a a_pitch a_jarring a_loud a_depth a_snoringAt s_a_sleepers f_a_pitch f_a_jarring) [(0, .ref a), (1, .int p1), (2, .int x2)] 2 [] := by
  unfold B_X0_tune_2 at hF
  refine go_iload_n 2 dX0_tune_2 rfl rfl ?_
  refine go_aload_n 0 dX0_tune_3 rfl rfl ?_
  refine go_get 0 0 0 hcX0 inX0 (Nat.le_of_ble_eq_true rfl) wd203 rfl rfl dX0_tune_4 ?_
  refine go_icmp_ge 98 hF dX0_tune_7 (by decide) (fun hF => ?_) (fun hF => ?_)
  · exact go_vret (Om := O_X0_tune K a a_pitch a_jarring a_loud a_depth a_snoringAt s_a_sleepers f_a_pitch) hR hF dX0_tune_98 rfl (Nat.zero_le _) (Nat.zero_le _) ⟨rfl, rfl⟩
  · refine go_iconst (v := (0 : Int32)) dX0_tune_10 (by decide) ?_
    refine go_istore_n [(3, .int (0 : Int32)), (0, .ref a), (1, .int p1), (2, .int x2)] dX0_tune_11 rfl (Nat.le_of_ble_eq_true rfl) rfl ?_
    refine go_iconst (v := (0 : Int32)) dX0_tune_12 (by decide) ?_
    refine go_istore [(4, .int (0 : Int32)), (3, .int (0 : Int32)), (0, .ref a), (1, .int p1), (2, .int x2)] dX0_tune_13 (Nat.le_of_ble_eq_true rfl) rfl ?_
    refine go_loc (L' := [(0, .ref a), (1, .int p1), (2, .int x2), (3, .int (0 : Int32)), (4, .int (0 : Int32))]) [2, 3, 4, 1, 0] rfl ?_
    exact GL_X0_tune_15 N s_a_sleepers f_a_pitch p1 a a_pitch a_jarring a_loud a_depth a_snoringAt hR k2 hk2 N f_a_jarring x2 (0 : Int32) (0 : Int32) hF
theorem GL_X0_tune_2 {K : gK} {X : gX} {wi : va_W} {o : (Nat → Int32)} (N : Nat) (s_a_sleepers : Int32) (f_a_pitch : Nat → Int32) (p1 : Int32) (a : Nat) (a_pitch : Nat) (a_jarring : Nat) (a_loud : Nat) (a_depth : Nat) (a_snoringAt : Nat) (hR : gR K X M_X0_tune wi (O_X0_tune K a a_pitch a_jarring a_loud a_depth a_snoringAt s_a_sleepers f_a_pitch o))  : ∀ (fuel : Nat) (f_a_jarring : Nat → Int32) (x2 : Int32), F_X0_tune_2 N s_a_sleepers f_a_pitch p1  fuel f_a_jarring x2 = some o → Go K X M_X0_tune 0 0 (C_X0_tune K a a_pitch a_jarring a_loud a_depth a_snoringAt s_a_sleepers f_a_pitch f_a_jarring) [(0, .ref a), (1, .int p1), (2, .int x2)] 2 [] :=
  lq2_elim (fun self hs f_a_jarring x2 hF => G_X0_tune_2 N s_a_sleepers f_a_pitch p1 a a_pitch a_jarring a_loud a_depth a_snoringAt hR  self hs f_a_jarring x2 hF)
noncomputable def F_X0_tune (N : Nat) (s_a_sleepers : Int32) (f_a_pitch : Nat → Int32) (f_a_jarring : Nat → Int32) (p1 : Int32) : Option ((Nat → Int32)) := F_X0_tune_2 N s_a_sleepers f_a_pitch p1 N f_a_jarring (0 : Int32)
set_option maxHeartbeats 4000000 in
theorem kn_X0_tune (K : gK) (N : Nat) (a : Nat) (a_pitch : Nat) (a_jarring : Nat) (a_loud : Nat) (a_depth : Nat) (a_snoringAt : Nat) (s_a_sleepers : Int32) (f_a_pitch : Nat → Int32) (f_a_jarring : Nat → Int32) (p1 : Int32) {o : (Nat → Int32)} (hF : F_X0_tune N s_a_sleepers f_a_pitch f_a_jarring p1 = some o) : Kn K M_X0_tune [.ref a, .int p1] (C_X0_tune K a a_pitch a_jarring a_loud a_depth a_snoringAt s_a_sleepers f_a_pitch f_a_jarring) (O_X0_tune K a a_pitch a_jarring a_loud a_depth a_snoringAt s_a_sleepers f_a_pitch o) := by
  refine kn_of (by decide +kernel) (Nat.le_of_ble_eq_true rfl) (fun X hR => ?_)
  refine go_loc (L' := [(0, .ref a), (1, .int p1)]) [0, 1] rfl ?_
  unfold F_X0_tune at hF
  refine go_iconst (v := (0 : Int32)) dX0_tune_0 (by decide) ?_
  refine go_istore_n [(2, .int (0 : Int32)), (0, .ref a), (1, .int p1)] dX0_tune_1 rfl (Nat.le_of_ble_eq_true rfl) rfl ?_
  refine go_loc (L' := [(0, .ref a), (1, .int p1), (2, .int (0 : Int32))]) [1, 2, 0] rfl ?_
  exact GL_X0_tune_2 N s_a_sleepers f_a_pitch p1 a a_pitch a_jarring a_loud a_depth a_snoringAt hR  N f_a_jarring (0 : Int32) hF
theorem ok_X0_tune : gOkV M_X0_tune 1 := ⟨⟨wd487, wd68, by decide +kernel, by decide +kernel, by decide +kernel⟩, wd485, wd486⟩
def C_X0_snorers (K : gK) (a : Nat) (a_snoringAt : Nat) (a_pitch : Nat) (a_loud : Nat) (a_depth : Nat) (a_jarring : Nat) (s_a_sleepers : Int32) (f_a_snoringAt : Nat → Int32) : va_W := [(a, .inr (0, [.int s_a_sleepers, .ref a_pitch, .ref a_loud, .ref a_depth, .ref a_jarring, .ref a_snoringAt])), (a_snoringAt, .inl (kI K, 12, .inl f_a_snoringAt))]
def M_X0_snorers : gM := (yX0_snorers, cX0_snorers, 4, (some .int), { frames := 1, cells := 0, slots := 0, locals := 21 })
def O_X0_snorers (K : gK) (a : Nat) (a_snoringAt : Nat) (a_pitch : Nat) (a_loud : Nat) (a_depth : Nat) (a_jarring : Nat) (s_a_sleepers : Int32) (f_a_snoringAt : Nat → Int32) (o : Int32) : Option Value → va_W → Prop := fun r w => r = some (.int o) ∧ w = C_X0_snorers K a a_snoringAt a_pitch a_loud a_depth a_jarring s_a_sleepers f_a_snoringAt
noncomputable def F_X0_snorers (f_a_snoringAt : Nat → Int32) (p1 : Int32) (p2 : Int32) (p3 : Int32) : Option (Int32) := bnd (F_X8_at 12 f_a_snoringAt p3) (fun o1 => some ((p1 &&& (p2 ^^^ (-1 : Int32))) &&& o1))
set_option maxHeartbeats 4000000 in
theorem kn_X0_snorers (K : gK) (a : Nat) (a_snoringAt : Nat) (a_pitch : Nat) (a_loud : Nat) (a_depth : Nat) (a_jarring : Nat) (s_a_sleepers : Int32) (f_a_snoringAt : Nat → Int32) (p1 : Int32) (p2 : Int32) (p3 : Int32) {o : Int32} (hF : F_X0_snorers f_a_snoringAt p1 p2 p3 = some o) : Kn K M_X0_snorers [.ref a, .int p1, .int p2, .int p3] (C_X0_snorers K a a_snoringAt a_pitch a_loud a_depth a_jarring s_a_sleepers f_a_snoringAt) (O_X0_snorers K a a_snoringAt a_pitch a_loud a_depth a_jarring s_a_sleepers f_a_snoringAt o) := by
  refine kn_of (by decide +kernel) (Nat.le_of_ble_eq_true rfl) (fun X hR => ?_)
  refine go_loc (L' := [(0, .ref a), (1, .int p1), (2, .int p2), (3, .int p3)]) [0, 1, 2, 3] rfl ?_
  unfold F_X0_snorers at hF
  refine go_iload_n 1 dX0_snorers_0 rfl rfl ?_
  refine go_iload_n 2 dX0_snorers_1 rfl rfl ?_
  refine go_iconst (v := (-1 : Int32)) dX0_snorers_2 (by decide) ?_
  refine go_ixor dX0_snorers_3 ?_
  refine go_iand dX0_snorers_4 ?_
  refine go_aload_n 0 dX0_snorers_5 rfl rfl ?_
  refine go_get 0 0 5 hcX0 inX0 (Nat.le_of_ble_eq_true rfl) wd209 rfl rfl dX0_snorers_6 ?_
  refine go_iload_n 3 dX0_snorers_9 rfl rfl ?_
  obtain ⟨o1, ho1, hF⟩ := bnd_elim hF
  refine go_callSN (As := [.ref a_snoringAt, .int p3]) (rest := [.int (p1 &&& (p2 ^^^ (-1 : Int32)))]) (wr := [(a, .inr (0, [.int s_a_sleepers, .ref a_pitch, .ref a_loud, .ref a_depth, .ref a_jarring, .ref a_snoringAt]))]) (kn_X8_at K a_snoringAt 12 f_a_snoringAt p3 ho1) ok_X8_at ⟨Nat.le_of_ble_eq_true rfl, Nat.le_of_ble_eq_true rfl⟩ ⟨Nat.le_of_ble_eq_true rfl, Nat.le_of_ble_eq_true rfl⟩ ns8 rfl rfl (Nat.le_of_ble_eq_true rfl) dX0_snorers_10 [1] [0] rfl rfl rfl rfl (by decide) (fun r wo hO => ?_)
  obtain ⟨rfl, rfl⟩ := hO
  refine go_ws (ws' := C_X0_snorers K a a_snoringAt a_pitch a_loud a_depth a_jarring s_a_sleepers f_a_snoringAt) [0, 1] rfl rfl ?_
  refine go_eq (pc' := 13) (st' := [.int o1, .int (p1 &&& (p2 ^^^ (-1 : Int32)))]) rfl rfl ?_
  refine go_iand dX0_snorers_13 ?_
  exact go_iret (Om := O_X0_snorers K a a_snoringAt a_pitch a_loud a_depth a_jarring s_a_sleepers f_a_snoringAt) hR hF dX0_snorers_14 rfl rfl (Nat.zero_le _) (Nat.zero_le _) ⟨rfl, rfl⟩
theorem ok_X0_snorers : gOkV M_X0_snorers 3 := ⟨⟨wd533, wd68, by decide +kernel, by decide +kernel, by decide +kernel⟩, wd531, wd532⟩
def C_X0_isOutOfTune (K : gK) (a : Nat) (a_jarring : Nat) (a_pitch : Nat) (a_loud : Nat) (a_depth : Nat) (a_snoringAt : Nat) (s_a_sleepers : Int32) (f_a_jarring : Nat → Int32) : va_W := [(a, .inr (0, [.int s_a_sleepers, .ref a_pitch, .ref a_loud, .ref a_depth, .ref a_jarring, .ref a_snoringAt])), (a_jarring, .inl (kI K, 8, .inl f_a_jarring))]
def M_X0_isOutOfTune : gM := (yX0_isOutOfTune, cX0_isOutOfTune, 3, (some .boolean), { frames := 1, cells := 0, slots := 0, locals := 21 })
def O_X0_isOutOfTune (K : gK) (a : Nat) (a_jarring : Nat) (a_pitch : Nat) (a_loud : Nat) (a_depth : Nat) (a_snoringAt : Nat) (s_a_sleepers : Int32) (f_a_jarring : Nat → Int32) (o : Int32) : Option Value → va_W → Prop := fun r w => r = some (.int o) ∧ w = C_X0_isOutOfTune K a a_jarring a_pitch a_loud a_depth a_snoringAt s_a_sleepers f_a_jarring
noncomputable def B_X0_isOutOfTune_2 (N : Nat) (s_a_sleepers : Int32) (f_a_jarring : Nat → Int32) (p1 : Int32) (k2 : Int32 → Option (Int32)) (x2 : Int32) : Option (Int32) := if s_a_sleepers ≤ x2 then some (0 : Int32) else if ((p1 >>> (x2 &&& 31)) &&& (1 : Int32)) = (1 : Int32) then bnd (F_X8_at 8 f_a_jarring x2) (fun o2 => if (p1 &&& o2) = 0 then nm (x2 + (1 : Int32)) (fun v3 => k2 v3) else some (1 : Int32)) else nm (x2 + (1 : Int32)) (fun v1 => k2 v1)
noncomputable def F_X0_isOutOfTune_2 (N : Nat) (s_a_sleepers : Int32) (f_a_jarring : Nat → Int32) (p1 : Int32)  : Nat → Int32 → Option (Int32) := lq1 (fun self => B_X0_isOutOfTune_2 N s_a_sleepers f_a_jarring p1  self)
set_option maxHeartbeats 4000000 in
theorem G_X0_isOutOfTune_2 {K : gK} {X : gX} {wi : va_W} {o : Int32} (N : Nat) (s_a_sleepers : Int32) (f_a_jarring : Nat → Int32) (p1 : Int32) (a : Nat) (a_jarring : Nat) (a_pitch : Nat) (a_loud : Nat) (a_depth : Nat) (a_snoringAt : Nat) (hR : gR K X M_X0_isOutOfTune wi (O_X0_isOutOfTune K a a_jarring a_pitch a_loud a_depth a_snoringAt s_a_sleepers f_a_jarring o)) (k2 : Int32 → Option (Int32)) (hk2 : ∀ (x2 : Int32), k2 x2 = some o → Go K X M_X0_isOutOfTune 0 0 (C_X0_isOutOfTune K a a_jarring a_pitch a_loud a_depth a_snoringAt s_a_sleepers f_a_jarring) [(0, .ref a), (1, .int p1), (2, .int x2)] 2 []) (x2 : Int32) (hF : B_X0_isOutOfTune_2 N s_a_sleepers f_a_jarring p1 k2 x2 = some o) : Go K X M_X0_isOutOfTune 0 0 (C_X0_isOutOfTune K a a_jarring a_pitch a_loud a_depth a_snoringAt s_a_sleepers f_a_jarring) [(0, .ref a), (1, .int p1), (2, .int x2)] 2 [] := by
  unfold B_X0_isOutOfTune_2 at hF
  refine go_iload_n 2 dX0_isOutOfTune_2 rfl rfl ?_
  refine go_aload_n 0 dX0_isOutOfTune_3 rfl rfl ?_
  refine go_get 0 0 0 hcX0 inX0 (Nat.le_of_ble_eq_true rfl) wd203 rfl rfl dX0_isOutOfTune_4 ?_
  refine go_icmp_ge 40 hF dX0_isOutOfTune_7 (by decide) (fun hF => ?_) (fun hF => ?_)
  · refine go_iconst (v := (0 : Int32)) dX0_isOutOfTune_40 (by decide) ?_
    exact go_iret (Om := O_X0_isOutOfTune K a a_jarring a_pitch a_loud a_depth a_snoringAt s_a_sleepers f_a_jarring) hR hF dX0_isOutOfTune_41 rfl rfl (Nat.zero_le _) (Nat.zero_le _) ⟨rfl, rfl⟩
  · refine go_iload_n 1 dX0_isOutOfTune_10 rfl rfl ?_
    refine go_iload_n 2 dX0_isOutOfTune_11 rfl rfl ?_
    refine go_ishr dX0_isOutOfTune_12 ?_
    refine go_iconst (v := (1 : Int32)) dX0_isOutOfTune_13 (by decide) ?_
    refine go_iand dX0_isOutOfTune_14 ?_
    refine go_iconst (v := (1 : Int32)) dX0_isOutOfTune_15 (by decide) ?_
    refine go_icmp_ne 34 hF dX0_isOutOfTune_16 (by decide) (fun hF => ?_) (fun hF => ?_)
    · refine go_iinc 2 (fun y => [(2, .int y), (0, .ref a), (1, .int p1)]) hF dX0_isOutOfTune_34 rfl rfl (Nat.le_of_ble_eq_true rfl) (fun _ => rfl) (fun v1 hF => ?_)
      refine go_goto 2 dX0_isOutOfTune_37 (by decide) ?_
      refine go_loc (L' := [(0, .ref a), (1, .int p1), (2, .int v1)]) [1, 2, 0] rfl ?_
      exact hk2 v1 hF
    · refine go_iload_n 1 dX0_isOutOfTune_19 rfl rfl ?_
      refine go_aload_n 0 dX0_isOutOfTune_20 rfl rfl ?_
      refine go_get 0 0 4 hcX0 inX0 (Nat.le_of_ble_eq_true rfl) wd208 rfl rfl dX0_isOutOfTune_21 ?_
      refine go_iload_n 2 dX0_isOutOfTune_24 rfl rfl ?_
      obtain ⟨o2, ho2, hF⟩ := bnd_elim hF
      refine go_callSN (As := [.ref a_jarring, .int x2]) (rest := [.int p1]) (wr := [(a, .inr (0, [.int s_a_sleepers, .ref a_pitch, .ref a_loud, .ref a_depth, .ref a_jarring, .ref a_snoringAt]))]) (kn_X8_at K a_jarring 8 f_a_jarring x2 ho2) ok_X8_at ⟨Nat.le_of_ble_eq_true rfl, Nat.le_of_ble_eq_true rfl⟩ ⟨Nat.le_of_ble_eq_true rfl, Nat.le_of_ble_eq_true rfl⟩ ns8 rfl rfl (Nat.le_of_ble_eq_true rfl) dX0_isOutOfTune_25 [1] [0] rfl rfl rfl rfl (by decide) (fun r wo hO => ?_)
      obtain ⟨rfl, rfl⟩ := hO
      refine go_ws (ws' := C_X0_isOutOfTune K a a_jarring a_pitch a_loud a_depth a_snoringAt s_a_sleepers f_a_jarring) [0, 1] rfl rfl ?_
      refine go_eq (pc' := 28) (st' := [.int o2, .int p1]) rfl rfl ?_
      refine go_iand dX0_isOutOfTune_28 ?_
      refine go_if_eq 34 hF dX0_isOutOfTune_29 (by decide) (fun hF => ?_) (fun hF => ?_)
      · refine go_iinc 2 (fun y => [(2, .int y), (0, .ref a), (1, .int p1)]) hF dX0_isOutOfTune_34 rfl rfl (Nat.le_of_ble_eq_true rfl) (fun _ => rfl) (fun v3 hF => ?_)
        refine go_goto 2 dX0_isOutOfTune_37 (by decide) ?_
        refine go_loc (L' := [(0, .ref a), (1, .int p1), (2, .int v3)]) [1, 2, 0] rfl ?_
        exact hk2 v3 hF
      · refine go_iconst (v := (1 : Int32)) dX0_isOutOfTune_32 (by decide) ?_
        exact go_iret (Om := O_X0_isOutOfTune K a a_jarring a_pitch a_loud a_depth a_snoringAt s_a_sleepers f_a_jarring) hR hF dX0_isOutOfTune_33 rfl rfl (Nat.zero_le _) (Nat.zero_le _) ⟨rfl, rfl⟩
theorem GL_X0_isOutOfTune_2 {K : gK} {X : gX} {wi : va_W} {o : Int32} (N : Nat) (s_a_sleepers : Int32) (f_a_jarring : Nat → Int32) (p1 : Int32) (a : Nat) (a_jarring : Nat) (a_pitch : Nat) (a_loud : Nat) (a_depth : Nat) (a_snoringAt : Nat) (hR : gR K X M_X0_isOutOfTune wi (O_X0_isOutOfTune K a a_jarring a_pitch a_loud a_depth a_snoringAt s_a_sleepers f_a_jarring o))  : ∀ (fuel : Nat) (x2 : Int32), F_X0_isOutOfTune_2 N s_a_sleepers f_a_jarring p1  fuel x2 = some o → Go K X M_X0_isOutOfTune 0 0 (C_X0_isOutOfTune K a a_jarring a_pitch a_loud a_depth a_snoringAt s_a_sleepers f_a_jarring) [(0, .ref a), (1, .int p1), (2, .int x2)] 2 [] :=
  lq1_elim (fun self hs x2 hF => G_X0_isOutOfTune_2 N s_a_sleepers f_a_jarring p1 a a_jarring a_pitch a_loud a_depth a_snoringAt hR  self hs x2 hF)
noncomputable def F_X0_isOutOfTune (N : Nat) (s_a_sleepers : Int32) (f_a_jarring : Nat → Int32) (p1 : Int32) : Option (Int32) := F_X0_isOutOfTune_2 N s_a_sleepers f_a_jarring p1 N (0 : Int32)
set_option maxHeartbeats 4000000 in
theorem kn_X0_isOutOfTune (K : gK) (N : Nat) (a : Nat) (a_jarring : Nat) (a_pitch : Nat) (a_loud : Nat) (a_depth : Nat) (a_snoringAt : Nat) (s_a_sleepers : Int32) (f_a_jarring : Nat → Int32) (p1 : Int32) {o : Int32} (hF : F_X0_isOutOfTune N s_a_sleepers f_a_jarring p1 = some o) : Kn K M_X0_isOutOfTune [.ref a, .int p1] (C_X0_isOutOfTune K a a_jarring a_pitch a_loud a_depth a_snoringAt s_a_sleepers f_a_jarring) (O_X0_isOutOfTune K a a_jarring a_pitch a_loud a_depth a_snoringAt s_a_sleepers f_a_jarring o) := by
  refine kn_of (by decide +kernel) (Nat.le_of_ble_eq_true rfl) (fun X hR => ?_)
  refine go_loc (L' := [(0, .ref a), (1, .int p1)]) [0, 1] rfl ?_
  unfold F_X0_isOutOfTune at hF
  refine go_iconst (v := (0 : Int32)) dX0_isOutOfTune_0 (by decide) ?_
  refine go_istore_n [(2, .int (0 : Int32)), (0, .ref a), (1, .int p1)] dX0_isOutOfTune_1 rfl (Nat.le_of_ble_eq_true rfl) rfl ?_
  refine go_loc (L' := [(0, .ref a), (1, .int p1), (2, .int (0 : Int32))]) [1, 2, 0] rfl ?_
  exact GL_X0_isOutOfTune_2 N s_a_sleepers f_a_jarring p1 a a_jarring a_pitch a_loud a_depth a_snoringAt hR  N (0 : Int32) hF
theorem ok_X0_isOutOfTune : gOkV M_X0_isOutOfTune 1 := ⟨⟨wd537, wd68, by decide +kernel, by decide +kernel, by decide +kernel⟩, wd535, wd536⟩
def C_X0_noise (K : gK) (a : Nat) (a_loud : Nat) (a_jarring : Nat) (a_pitch : Nat) (a_depth : Nat) (a_snoringAt : Nat) (s_a_sleepers : Int32) (f_a_loud : Nat → Int32) (f_a_jarring : Nat → Int32) : va_W := [(a, .inr (0, [.int s_a_sleepers, .ref a_pitch, .ref a_loud, .ref a_depth, .ref a_jarring, .ref a_snoringAt])), (a_loud, .inl (kI K, 8, .inl f_a_loud)), (a_jarring, .inl (kI K, 8, .inl f_a_jarring))]
def M_X0_noise : gM := (yX0_noise, cX0_noise, 6, (some .int), { frames := 1, cells := 0, slots := 0, locals := 21 })
def O_X0_noise (K : gK) (a : Nat) (a_loud : Nat) (a_jarring : Nat) (a_pitch : Nat) (a_depth : Nat) (a_snoringAt : Nat) (s_a_sleepers : Int32) (f_a_loud : Nat → Int32) (f_a_jarring : Nat → Int32) (o : Int32) : Option Value → va_W → Prop := fun r w => r = some (.int o) ∧ w = C_X0_noise K a a_loud a_jarring a_pitch a_depth a_snoringAt s_a_sleepers f_a_loud f_a_jarring
noncomputable def B_X0_noise_17 (N : Nat) (f_a_loud : Nat → Int32) (f_a_jarring : Nat → Int32) (p1 : Int32) (p2 : Int32) (k17 : Int32 → Int32 → Int32 → Option (Int32)) (x3 : Int32) (x4 : Int32) (x5 : Int32) : Option (Int32) := if (8 : Int32) ≤ x5 then some x4 else if ((x3 >>> (x5 &&& 31)) &&& (1 : Int32)) = (1 : Int32) then rd 8 f_a_loud x5 (fun v4 => nm (x4 + v4) (fun v5 => nm (x5 + (1 : Int32)) (fun v6 => k17 x3 v5 v6))) else nm (x5 + (1 : Int32)) (fun v3 => k17 x3 x4 v3)
noncomputable def F_X0_noise_17 (N : Nat) (f_a_loud : Nat → Int32) (f_a_jarring : Nat → Int32) (p1 : Int32) (p2 : Int32)  : Nat → Int32 → Int32 → Int32 → Option (Int32) := lq3 (fun self => B_X0_noise_17 N f_a_loud f_a_jarring p1 p2  self)
set_option maxHeartbeats 4000000 in
theorem G_X0_noise_17 {K : gK} {X : gX} {wi : va_W} {o : Int32} (N : Nat) (f_a_loud : Nat → Int32) (f_a_jarring : Nat → Int32) (p1 : Int32) (p2 : Int32) (a : Nat) (a_loud : Nat) (a_jarring : Nat) (a_pitch : Nat) (a_depth : Nat) (a_snoringAt : Nat) (s_a_sleepers : Int32) (hR : gR K X M_X0_noise wi (O_X0_noise K a a_loud a_jarring a_pitch a_depth a_snoringAt s_a_sleepers f_a_loud f_a_jarring o)) (k17 : Int32 → Int32 → Int32 → Option (Int32)) (hk17 : ∀ (x3 : Int32) (x4 : Int32) (x5 : Int32), k17 x3 x4 x5 = some o → Go K X M_X0_noise 0 0 (C_X0_noise K a a_loud a_jarring a_pitch a_depth a_snoringAt s_a_sleepers f_a_loud f_a_jarring) [(0, .ref a), (3, .int x3), (4, .int x4), (5, .int x5)] 17 []) (x3 : Int32) (x4 : Int32) (x5 : Int32) (hF : B_X0_noise_17 N f_a_loud f_a_jarring p1 p2 k17 x3 x4 x5 = some o) : Go K X M_X0_noise 0 0 (C_X0_noise K a a_loud a_jarring a_pitch a_depth a_snoringAt s_a_sleepers f_a_loud f_a_jarring) [(0, .ref a), (3, .int x3), (4, .int x4), (5, .int x5)] 17 [] := by
  unfold B_X0_noise_17 at hF
  refine go_iload 3 dX0_noise_17 rfl ?_
  refine go_aload_n 0 dX0_noise_19 rfl rfl ?_
  refine go_get 0 0 2 hcX0 inX0 (Nat.le_of_ble_eq_true rfl) wd206 rfl rfl dX0_noise_20 ?_
  refine go_alen (v := (8 : Int32)) 1 rfl rfl dX0_noise_23 ?_
  refine go_icmp_ge 55 hF dX0_noise_24 (by decide) (fun hF => ?_) (fun hF => ?_)
  · refine go_iload 2 dX0_noise_55 rfl ?_
    exact go_iret (Om := O_X0_noise K a a_loud a_jarring a_pitch a_depth a_snoringAt s_a_sleepers f_a_loud f_a_jarring) hR hF dX0_noise_57 rfl rfl (Nat.zero_le _) (Nat.zero_le _) ⟨rfl, rfl⟩
  · refine go_iload_n 1 dX0_noise_27 rfl rfl ?_
    refine go_iload 3 dX0_noise_28 rfl ?_
    refine go_ishr dX0_noise_30 ?_
    refine go_iconst (v := (1 : Int32)) dX0_noise_31 (by decide) ?_
    refine go_iand dX0_noise_32 ?_
    refine go_iconst (v := (1 : Int32)) dX0_noise_33 (by decide) ?_
    refine go_icmp_ne 49 hF dX0_noise_34 (by decide) (fun hF => ?_) (fun hF => ?_)
    · refine go_iinc 3 (fun y => [(5, .int y), (0, .ref a), (3, .int x3), (4, .int x4)]) hF dX0_noise_49 rfl rfl (Nat.le_of_ble_eq_true rfl) (fun _ => rfl) (fun v3 hF => ?_)
      refine go_goto 17 dX0_noise_52 (by decide) ?_
      refine go_loc (L' := [(0, .ref a), (3, .int x3), (4, .int x4), (5, .int v3)]) [1, 2, 3, 0] rfl ?_
      exact hk17 x3 x4 v3 hF
    · refine go_iload 2 dX0_noise_37 rfl ?_
      refine go_aload_n 0 dX0_noise_39 rfl rfl ?_
      refine go_get 0 0 2 hcX0 inX0 (Nat.le_of_ble_eq_true rfl) wd206 rfl rfl dX0_noise_40 ?_
      refine go_iload 3 dX0_noise_43 rfl ?_
      refine go_iald 1 hF rfl dX0_noise_45 (fun v4 hF => ?_)
      refine go_iadd dX0_noise_46 ?_
      refine go_nmi hF (fun v5 hF => ?_)
      refine go_istore [(4, .int v5), (0, .ref a), (3, .int x3), (5, .int x5)] dX0_noise_47 (Nat.le_of_ble_eq_true rfl) rfl ?_
      refine go_iinc 3 (fun y => [(5, .int y), (4, .int v5), (0, .ref a), (3, .int x3)]) hF dX0_noise_49 rfl rfl (Nat.le_of_ble_eq_true rfl) (fun _ => rfl) (fun v6 hF => ?_)
      refine go_goto 17 dX0_noise_52 (by decide) ?_
      refine go_loc (L' := [(0, .ref a), (3, .int x3), (4, .int v5), (5, .int v6)]) [2, 3, 1, 0] rfl ?_
      exact hk17 x3 v5 v6 hF
theorem GL_X0_noise_17 {K : gK} {X : gX} {wi : va_W} {o : Int32} (N : Nat) (f_a_loud : Nat → Int32) (f_a_jarring : Nat → Int32) (p1 : Int32) (p2 : Int32) (a : Nat) (a_loud : Nat) (a_jarring : Nat) (a_pitch : Nat) (a_depth : Nat) (a_snoringAt : Nat) (s_a_sleepers : Int32) (hR : gR K X M_X0_noise wi (O_X0_noise K a a_loud a_jarring a_pitch a_depth a_snoringAt s_a_sleepers f_a_loud f_a_jarring o))  : ∀ (fuel : Nat) (x3 : Int32) (x4 : Int32) (x5 : Int32), F_X0_noise_17 N f_a_loud f_a_jarring p1 p2  fuel x3 x4 x5 = some o → Go K X M_X0_noise 0 0 (C_X0_noise K a a_loud a_jarring a_pitch a_depth a_snoringAt s_a_sleepers f_a_loud f_a_jarring) [(0, .ref a), (3, .int x3), (4, .int x4), (5, .int x5)] 17 [] :=
  lq3_elim (fun self hs x3 x4 x5 hF => G_X0_noise_17 N f_a_loud f_a_jarring p1 p2 a a_loud a_jarring a_pitch a_depth a_snoringAt s_a_sleepers hR  self hs x3 x4 x5 hF)
noncomputable def F_X0_noise (N : Nat) (f_a_loud : Nat → Int32) (f_a_jarring : Nat → Int32) (p1 : Int32) (p2 : Int32) : Option (Int32) := bnd (F_X8_at 8 f_a_jarring p1) (fun o1 => nm (p2 &&& o1) (fun v2 => F_X0_noise_17 N f_a_loud f_a_jarring p1 p2 N v2 (0 : Int32) (0 : Int32)))
set_option maxHeartbeats 4000000 in
theorem kn_X0_noise (K : gK) (N : Nat) (a : Nat) (a_loud : Nat) (a_jarring : Nat) (a_pitch : Nat) (a_depth : Nat) (a_snoringAt : Nat) (s_a_sleepers : Int32) (f_a_loud : Nat → Int32) (f_a_jarring : Nat → Int32) (p1 : Int32) (p2 : Int32) {o : Int32} (hF : F_X0_noise N f_a_loud f_a_jarring p1 p2 = some o) : Kn K M_X0_noise [.ref a, .int p1, .int p2] (C_X0_noise K a a_loud a_jarring a_pitch a_depth a_snoringAt s_a_sleepers f_a_loud f_a_jarring) (O_X0_noise K a a_loud a_jarring a_pitch a_depth a_snoringAt s_a_sleepers f_a_loud f_a_jarring o) := by
  refine kn_of (by decide +kernel) (Nat.le_of_ble_eq_true rfl) (fun X hR => ?_)
  refine go_loc (L' := [(0, .ref a), (1, .int p1), (2, .int p2)]) [0, 1, 2] rfl ?_
  unfold F_X0_noise at hF
  refine go_iload_n 2 dX0_noise_0 rfl rfl ?_
  refine go_aload_n 0 dX0_noise_1 rfl rfl ?_
  refine go_get 0 0 4 hcX0 inX0 (Nat.le_of_ble_eq_true rfl) wd208 rfl rfl dX0_noise_2 ?_
  refine go_iload_n 1 dX0_noise_5 rfl rfl ?_
  obtain ⟨o1, ho1, hF⟩ := bnd_elim hF
  refine go_callSN (As := [.ref a_jarring, .int p1]) (rest := [.int p2]) (wr := [(a, .inr (0, [.int s_a_sleepers, .ref a_pitch, .ref a_loud, .ref a_depth, .ref a_jarring, .ref a_snoringAt])), (a_loud, .inl (kI K, 8, .inl f_a_loud))]) (kn_X8_at K a_jarring 8 f_a_jarring p1 ho1) ok_X8_at ⟨Nat.le_of_ble_eq_true rfl, Nat.le_of_ble_eq_true rfl⟩ ⟨Nat.le_of_ble_eq_true rfl, Nat.le_of_ble_eq_true rfl⟩ ns8 rfl rfl (Nat.le_of_ble_eq_true rfl) dX0_noise_6 [2] [0, 1] rfl rfl rfl rfl (by decide) (fun r wo hO => ?_)
  obtain ⟨rfl, rfl⟩ := hO
  refine go_ws (ws' := C_X0_noise K a a_loud a_jarring a_pitch a_depth a_snoringAt s_a_sleepers f_a_loud f_a_jarring) [0, 1, 2] rfl rfl ?_
  refine go_eq (pc' := 9) (st' := [.int o1, .int p2]) rfl rfl ?_
  refine go_iand dX0_noise_9 ?_
  refine go_nmi hF (fun v2 hF => ?_)
  refine go_istore_n [(3, .int v2), (0, .ref a), (1, .int p1), (2, .int p2)] dX0_noise_10 rfl (Nat.le_of_ble_eq_true rfl) rfl ?_
  refine go_iconst (v := (0 : Int32)) dX0_noise_11 (by decide) ?_
  refine go_istore [(4, .int (0 : Int32)), (3, .int v2), (0, .ref a), (1, .int p1), (2, .int p2)] dX0_noise_12 (Nat.le_of_ble_eq_true rfl) rfl ?_
  refine go_iconst (v := (0 : Int32)) dX0_noise_14 (by decide) ?_
  refine go_istore [(5, .int (0 : Int32)), (4, .int (0 : Int32)), (3, .int v2), (0, .ref a), (1, .int p1), (2, .int p2)] dX0_noise_15 (Nat.le_of_ble_eq_true rfl) rfl ?_
  refine go_loc (L' := [(0, .ref a), (3, .int v2), (4, .int (0 : Int32)), (5, .int (0 : Int32))]) [3, 2, 1, 0] rfl ?_
  exact GL_X0_noise_17 N f_a_loud f_a_jarring p1 p2 a a_loud a_jarring a_pitch a_depth a_snoringAt s_a_sleepers hR  N v2 (0 : Int32) (0 : Int32) hF
theorem ok_X0_noise : gOkV M_X0_noise 2 := ⟨⟨wd556, wd68, by decide +kernel, by decide +kernel, by decide +kernel⟩, wd554, wd555⟩
def C_X0_woken (K : gK) (a : Nat) (a_loud : Nat) (a_depth : Nat) (a_jarring : Nat) (a_pitch : Nat) (a_snoringAt : Nat) (s_a_sleepers : Int32) (f_a_loud : Nat → Int32) (f_a_depth : Nat → Int32) (f_a_jarring : Nat → Int32) : va_W := [(a, .inr (0, [.int s_a_sleepers, .ref a_pitch, .ref a_loud, .ref a_depth, .ref a_jarring, .ref a_snoringAt])), (a_loud, .inl (kI K, 8, .inl f_a_loud)), (a_depth, .inl (kI K, 8, .inl f_a_depth)), (a_jarring, .inl (kI K, 8, .inl f_a_jarring))]
def M_X0_woken : gM := (yX0_woken, cX0_woken, 5, (some .int), { frames := 2, cells := 0, slots := 0, locals := 46 })
def O_X0_woken (K : gK) (a : Nat) (a_loud : Nat) (a_depth : Nat) (a_jarring : Nat) (a_pitch : Nat) (a_snoringAt : Nat) (s_a_sleepers : Int32) (f_a_loud : Nat → Int32) (f_a_depth : Nat → Int32) (f_a_jarring : Nat → Int32) (o : Int32) : Option Value → va_W → Prop := fun r w => r = some (.int o) ∧ w = C_X0_woken K a a_loud a_depth a_jarring a_pitch a_snoringAt s_a_sleepers f_a_loud f_a_depth f_a_jarring
noncomputable def B_X0_woken_5 (N : Nat) (f_a_loud : Nat → Int32) (f_a_depth : Nat → Int32) (f_a_jarring : Nat → Int32) (p1 : Int32) (p2 : Int32) (k5 : Int32 → Int32 → Option (Int32)) (x3 : Int32) (x4 : Int32) : Option (Int32) := if (8 : Int32) ≤ x4 then some x3 else if ((p1 >>> (x4 &&& 31)) &&& (1 : Int32)) = (1 : Int32) then bnd (F_X0_noise N f_a_loud f_a_jarring x4 p2) (fun o2 => rd 8 f_a_depth x4 (fun v3 => if o2 ≤ v3 then nm (x4 + (1 : Int32)) (fun v4 => k5 x3 v4) else nm (x3 ||| ((1 : Int32) <<< (x4 &&& 31))) (fun v5 => nm (x4 + (1 : Int32)) (fun v6 => k5 v5 v6)))) else nm (x4 + (1 : Int32)) (fun v1 => k5 x3 v1)
noncomputable def F_X0_woken_5 (N : Nat) (f_a_loud : Nat → Int32) (f_a_depth : Nat → Int32) (f_a_jarring : Nat → Int32) (p1 : Int32) (p2 : Int32)  : Nat → Int32 → Int32 → Option (Int32) := lq2 (fun self => B_X0_woken_5 N f_a_loud f_a_depth f_a_jarring p1 p2  self)
set_option maxHeartbeats 4000000 in
theorem G_X0_woken_5 {K : gK} {X : gX} {wi : va_W} {o : Int32} (N : Nat) (f_a_loud : Nat → Int32) (f_a_depth : Nat → Int32) (f_a_jarring : Nat → Int32) (p1 : Int32) (p2 : Int32) (a : Nat) (a_loud : Nat) (a_depth : Nat) (a_jarring : Nat) (a_pitch : Nat) (a_snoringAt : Nat) (s_a_sleepers : Int32) (hR : gR K X M_X0_woken wi (O_X0_woken K a a_loud a_depth a_jarring a_pitch a_snoringAt s_a_sleepers f_a_loud f_a_depth f_a_jarring o)) (k5 : Int32 → Int32 → Option (Int32)) (hk5 : ∀ (x3 : Int32) (x4 : Int32), k5 x3 x4 = some o → Go K X M_X0_woken 0 0 (C_X0_woken K a a_loud a_depth a_jarring a_pitch a_snoringAt s_a_sleepers f_a_loud f_a_depth f_a_jarring) [(0, .ref a), (1, .int p1), (2, .int p2), (3, .int x3), (4, .int x4)] 5 []) (x3 : Int32) (x4 : Int32) (hF : B_X0_woken_5 N f_a_loud f_a_depth f_a_jarring p1 p2 k5 x3 x4 = some o) : Go K X M_X0_woken 0 0 (C_X0_woken K a a_loud a_depth a_jarring a_pitch a_snoringAt s_a_sleepers f_a_loud f_a_depth f_a_jarring) [(0, .ref a), (1, .int p1), (2, .int p2), (3, .int x3), (4, .int x4)] 5 [] := by
  unfold B_X0_woken_5 at hF
  refine go_iload 4 dX0_woken_5 rfl ?_
  refine go_aload_n 0 dX0_woken_7 rfl rfl ?_
  refine go_get 0 0 3 hcX0 inX0 (Nat.le_of_ble_eq_true rfl) wd207 rfl rfl dX0_woken_8 ?_
  refine go_alen (v := (8 : Int32)) 2 rfl rfl dX0_woken_11 ?_
  refine go_icmp_ge 55 hF dX0_woken_12 (by decide) (fun hF => ?_) (fun hF => ?_)
  · refine go_iload_n 3 dX0_woken_55 rfl rfl ?_
    exact go_iret (Om := O_X0_woken K a a_loud a_depth a_jarring a_pitch a_snoringAt s_a_sleepers f_a_loud f_a_depth f_a_jarring) hR hF dX0_woken_56 rfl rfl (Nat.zero_le _) (Nat.zero_le _) ⟨rfl, rfl⟩
  · refine go_iload_n 1 dX0_woken_15 rfl rfl ?_
    refine go_iload 4 dX0_woken_16 rfl ?_
    refine go_ishr dX0_woken_18 ?_
    refine go_iconst (v := (1 : Int32)) dX0_woken_19 (by decide) ?_
    refine go_iand dX0_woken_20 ?_
    refine go_iconst (v := (1 : Int32)) dX0_woken_21 (by decide) ?_
    refine go_icmp_ne 49 hF dX0_woken_22 (by decide) (fun hF => ?_) (fun hF => ?_)
    · refine go_iinc 4 (fun y => [(4, .int y), (0, .ref a), (1, .int p1), (2, .int p2), (3, .int x3)]) hF dX0_woken_49 rfl rfl (Nat.le_of_ble_eq_true rfl) (fun _ => rfl) (fun v1 hF => ?_)
      refine go_goto 5 dX0_woken_52 (by decide) ?_
      refine go_loc (L' := [(0, .ref a), (1, .int p1), (2, .int p2), (3, .int x3), (4, .int v1)]) [1, 2, 3, 4, 0] rfl ?_
      exact hk5 x3 v1 hF
    · refine go_aload_n 0 dX0_woken_25 rfl rfl ?_
      refine go_iload 4 dX0_woken_26 rfl ?_
      refine go_iload_n 2 dX0_woken_28 rfl rfl ?_
      obtain ⟨o2, ho2, hF⟩ := bnd_elim hF
      refine go_callV (As := [.int x4, .int p2]) (rest := []) (wr := [(a_depth, .inl (kI K, 8, .inl f_a_depth))]) 0 0 hcX0 rfl (kn_X0_noise K N a a_loud a_jarring a_pitch a_depth a_snoringAt s_a_sleepers f_a_loud f_a_jarring x4 p2 ho2) ok_X0_noise ⟨Nat.le_of_ble_eq_true rfl, Nat.le_of_ble_eq_true rfl⟩ ⟨Nat.le_of_ble_eq_true rfl, Nat.le_of_ble_eq_true rfl⟩ wd611 rfl rfl (Nat.le_of_ble_eq_true rfl) dX0_woken_29 [0, 1, 3] [2] rfl rfl rfl rfl (by decide) (fun r wo hO => ?_)
      obtain ⟨rfl, rfl⟩ := hO
      refine go_ws (ws' := C_X0_woken K a a_loud a_depth a_jarring a_pitch a_snoringAt s_a_sleepers f_a_loud f_a_depth f_a_jarring) [1, 2, 0, 3] rfl rfl ?_
      refine go_eq (pc' := 32) (st' := [.int o2]) rfl rfl ?_
      refine go_aload_n 0 dX0_woken_32 rfl rfl ?_
      refine go_get 0 0 3 hcX0 inX0 (Nat.le_of_ble_eq_true rfl) wd207 rfl rfl dX0_woken_33 ?_
      refine go_iload 4 dX0_woken_36 rfl ?_
      refine go_iald 2 hF rfl dX0_woken_38 (fun v3 hF => ?_)
      refine go_icmp_le 49 hF dX0_woken_39 (by decide) (fun hF => ?_) (fun hF => ?_)
      · refine go_iinc 4 (fun y => [(4, .int y), (0, .ref a), (1, .int p1), (2, .int p2), (3, .int x3)]) hF dX0_woken_49 rfl rfl (Nat.le_of_ble_eq_true rfl) (fun _ => rfl) (fun v4 hF => ?_)
        refine go_goto 5 dX0_woken_52 (by decide) ?_
        refine go_loc (L' := [(0, .ref a), (1, .int p1), (2, .int p2), (3, .int x3), (4, .int v4)]) [1, 2, 3, 4, 0] rfl ?_
        exact hk5 x3 v4 hF
      · refine go_iload_n 3 dX0_woken_42 rfl rfl ?_
        refine go_iconst (v := (1 : Int32)) dX0_woken_43 (by decide) ?_
        refine go_iload 4 dX0_woken_44 rfl ?_
        refine go_ishl dX0_woken_46 ?_
        refine go_ior dX0_woken_47 ?_
        refine go_nmi hF (fun v5 hF => ?_)
        refine go_istore_n [(3, .int v5), (0, .ref a), (1, .int p1), (2, .int p2), (4, .int x4)] dX0_woken_48 rfl (Nat.le_of_ble_eq_true rfl) rfl ?_
        refine go_iinc 4 (fun y => [(4, .int y), (3, .int v5), (0, .ref a), (1, .int p1), (2, .int p2)]) hF dX0_woken_49 rfl rfl (Nat.le_of_ble_eq_true rfl) (fun _ => rfl) (fun v6 hF => ?_)
        refine go_goto 5 dX0_woken_52 (by decide) ?_
        refine go_loc (L' := [(0, .ref a), (1, .int p1), (2, .int p2), (3, .int v5), (4, .int v6)]) [2, 3, 4, 1, 0] rfl ?_
        exact hk5 v5 v6 hF
theorem GL_X0_woken_5 {K : gK} {X : gX} {wi : va_W} {o : Int32} (N : Nat) (f_a_loud : Nat → Int32) (f_a_depth : Nat → Int32) (f_a_jarring : Nat → Int32) (p1 : Int32) (p2 : Int32) (a : Nat) (a_loud : Nat) (a_depth : Nat) (a_jarring : Nat) (a_pitch : Nat) (a_snoringAt : Nat) (s_a_sleepers : Int32) (hR : gR K X M_X0_woken wi (O_X0_woken K a a_loud a_depth a_jarring a_pitch a_snoringAt s_a_sleepers f_a_loud f_a_depth f_a_jarring o))  : ∀ (fuel : Nat) (x3 : Int32) (x4 : Int32), F_X0_woken_5 N f_a_loud f_a_depth f_a_jarring p1 p2  fuel x3 x4 = some o → Go K X M_X0_woken 0 0 (C_X0_woken K a a_loud a_depth a_jarring a_pitch a_snoringAt s_a_sleepers f_a_loud f_a_depth f_a_jarring) [(0, .ref a), (1, .int p1), (2, .int p2), (3, .int x3), (4, .int x4)] 5 [] :=
  lq2_elim (fun self hs x3 x4 hF => G_X0_woken_5 N f_a_loud f_a_depth f_a_jarring p1 p2 a a_loud a_depth a_jarring a_pitch a_snoringAt s_a_sleepers hR  self hs x3 x4 hF)
noncomputable def F_X0_woken (N : Nat) (f_a_loud : Nat → Int32) (f_a_depth : Nat → Int32) (f_a_jarring : Nat → Int32) (p1 : Int32) (p2 : Int32) : Option (Int32) := F_X0_woken_5 N f_a_loud f_a_depth f_a_jarring p1 p2 N (0 : Int32) (0 : Int32)
set_option maxHeartbeats 4000000 in
theorem kn_X0_woken (K : gK) (N : Nat) (a : Nat) (a_loud : Nat) (a_depth : Nat) (a_jarring : Nat) (a_pitch : Nat) (a_snoringAt : Nat) (s_a_sleepers : Int32) (f_a_loud : Nat → Int32) (f_a_depth : Nat → Int32) (f_a_jarring : Nat → Int32) (p1 : Int32) (p2 : Int32) {o : Int32} (hF : F_X0_woken N f_a_loud f_a_depth f_a_jarring p1 p2 = some o) : Kn K M_X0_woken [.ref a, .int p1, .int p2] (C_X0_woken K a a_loud a_depth a_jarring a_pitch a_snoringAt s_a_sleepers f_a_loud f_a_depth f_a_jarring) (O_X0_woken K a a_loud a_depth a_jarring a_pitch a_snoringAt s_a_sleepers f_a_loud f_a_depth f_a_jarring o) := by
  refine kn_of (by decide +kernel) (Nat.le_of_ble_eq_true rfl) (fun X hR => ?_)
  refine go_loc (L' := [(0, .ref a), (1, .int p1), (2, .int p2)]) [0, 1, 2] rfl ?_
  unfold F_X0_woken at hF
  refine go_iconst (v := (0 : Int32)) dX0_woken_0 (by decide) ?_
  refine go_istore_n [(3, .int (0 : Int32)), (0, .ref a), (1, .int p1), (2, .int p2)] dX0_woken_1 rfl (Nat.le_of_ble_eq_true rfl) rfl ?_
  refine go_iconst (v := (0 : Int32)) dX0_woken_2 (by decide) ?_
  refine go_istore [(4, .int (0 : Int32)), (3, .int (0 : Int32)), (0, .ref a), (1, .int p1), (2, .int p2)] dX0_woken_3 (Nat.le_of_ble_eq_true rfl) rfl ?_
  refine go_loc (L' := [(0, .ref a), (1, .int p1), (2, .int p2), (3, .int (0 : Int32)), (4, .int (0 : Int32))]) [2, 3, 4, 1, 0] rfl ?_
  exact GL_X0_woken_5 N f_a_loud f_a_depth f_a_jarring p1 p2 a a_loud a_depth a_jarring a_pitch a_snoringAt s_a_sleepers hR  N (0 : Int32) (0 : Int32) hF
theorem ok_X0_woken : gOkV M_X0_woken 2 := ⟨⟨wd610, wd68, by decide +kernel, by decide +kernel, by decide +kernel⟩, wd609, wd18⟩
def C_X0_afterHour (K : gK) (a : Nat) (a_loud : Nat) (a_depth : Nat) (a_jarring : Nat) (a_snoringAt : Nat) (b1 : Nat) (a_pitch : Nat) (n_b1 : Nat) (s_a_sleepers : Int32) (f_a_loud : Nat → Int32) (f_a_depth : Nat → Int32) (f_a_jarring : Nat → Int32) (f_a_snoringAt : Nat → Int32) (f_b1 : Nat → Int32) : va_W := [(a, .inr (0, [.int s_a_sleepers, .ref a_pitch, .ref a_loud, .ref a_depth, .ref a_jarring, .ref a_snoringAt])), (a_loud, .inl (kI K, 8, .inl f_a_loud)), (a_depth, .inl (kI K, 8, .inl f_a_depth)), (a_jarring, .inl (kI K, 8, .inl f_a_jarring)), (a_snoringAt, .inl (kI K, 12, .inl f_a_snoringAt)), (b1, .inl (kI K, n_b1, .inl f_b1))]
def M_X0_afterHour : gM := (yX0_afterHour, cX0_afterHour, 6, (some .int), { frames := 3, cells := 0, slots := 0, locals := 70 })
def O_X0_afterHour (K : gK) (a : Nat) (a_loud : Nat) (a_depth : Nat) (a_jarring : Nat) (a_snoringAt : Nat) (b1 : Nat) (a_pitch : Nat) (n_b1 : Nat) (s_a_sleepers : Int32) (f_a_loud : Nat → Int32) (f_a_depth : Nat → Int32) (f_a_jarring : Nat → Int32) (f_a_snoringAt : Nat → Int32) (f_b1 : Nat → Int32) (o : Int32) : Option Value → va_W → Prop := fun r w => r = some (.int o) ∧ w = C_X0_afterHour K a a_loud a_depth a_jarring a_snoringAt b1 a_pitch n_b1 s_a_sleepers f_a_loud f_a_depth f_a_jarring f_a_snoringAt f_b1
noncomputable def B_X0_afterHour_6 (N : Nat) (n_b1 : Nat) (f_a_loud : Nat → Int32) (f_a_depth : Nat → Int32) (f_a_jarring : Nat → Int32) (f_a_snoringAt : Nat → Int32) (f_b1 : Nat → Int32) (p2 : Int32) (p3 : Int32) (k6 : Int32 → Int32 → Option (Int32)) (x4 : Int32) (x5 : Int32) : Option (Int32) := if (Int32.ofNat n_b1) ≤ x5 then some x4 else rd n_b1 f_b1 x5 (fun v1 => rd n_b1 f_b1 x5 (fun v2 => bnd (F_X0_snorers f_a_snoringAt v2 p2 p3) (fun o3 => bnd (F_X0_woken N f_a_loud f_a_depth f_a_jarring (v1 &&& (p2 ^^^ (-1 : Int32))) o3) (fun o4 => nm (x4 ||| o4) (fun v5 => nm (x5 + (1 : Int32)) (fun v6 => k6 v5 v6))))))
noncomputable def F_X0_afterHour_6 (N : Nat) (n_b1 : Nat) (f_a_loud : Nat → Int32) (f_a_depth : Nat → Int32) (f_a_jarring : Nat → Int32) (f_a_snoringAt : Nat → Int32) (f_b1 : Nat → Int32) (p2 : Int32) (p3 : Int32)  : Nat → Int32 → Int32 → Option (Int32) := lq2 (fun self => B_X0_afterHour_6 N n_b1 f_a_loud f_a_depth f_a_jarring f_a_snoringAt f_b1 p2 p3  self)
set_option maxHeartbeats 4000000 in
theorem G_X0_afterHour_6 {K : gK} {X : gX} {wi : va_W} {o : Int32} (N : Nat) (n_b1 : Nat) (f_a_loud : Nat → Int32) (f_a_depth : Nat → Int32) (f_a_jarring : Nat → Int32) (f_a_snoringAt : Nat → Int32) (f_b1 : Nat → Int32) (p2 : Int32) (p3 : Int32) (a : Nat) (a_loud : Nat) (a_depth : Nat) (a_jarring : Nat) (a_snoringAt : Nat) (b1 : Nat) (a_pitch : Nat) (s_a_sleepers : Int32) (hR : gR K X M_X0_afterHour wi (O_X0_afterHour K a a_loud a_depth a_jarring a_snoringAt b1 a_pitch n_b1 s_a_sleepers f_a_loud f_a_depth f_a_jarring f_a_snoringAt f_b1 o)) (k6 : Int32 → Int32 → Option (Int32)) (hk6 : ∀ (x4 : Int32) (x5 : Int32), k6 x4 x5 = some o → Go K X M_X0_afterHour 0 0 (C_X0_afterHour K a a_loud a_depth a_jarring a_snoringAt b1 a_pitch n_b1 s_a_sleepers f_a_loud f_a_depth f_a_jarring f_a_snoringAt f_b1) [(0, .ref a), (1, .ref b1), (2, .int p2), (3, .int p3), (4, .int x4), (5, .int x5)] 6 []) (x4 : Int32) (x5 : Int32) (hF : B_X0_afterHour_6 N n_b1 f_a_loud f_a_depth f_a_jarring f_a_snoringAt f_b1 p2 p3 k6 x4 x5 = some o) : Go K X M_X0_afterHour 0 0 (C_X0_afterHour K a a_loud a_depth a_jarring a_snoringAt b1 a_pitch n_b1 s_a_sleepers f_a_loud f_a_depth f_a_jarring f_a_snoringAt f_b1) [(0, .ref a), (1, .ref b1), (2, .int p2), (3, .int p3), (4, .int x4), (5, .int x5)] 6 [] := by
  unfold B_X0_afterHour_6 at hF
  refine go_iload 5 dX0_afterHour_6 rfl ?_
  refine go_aload_n 1 dX0_afterHour_8 rfl rfl ?_
  refine go_alen (v := (Int32.ofNat n_b1)) 5 rfl rfl dX0_afterHour_9 ?_
  refine go_icmp_ge 46 hF dX0_afterHour_10 (by decide) (fun hF => ?_) (fun hF => ?_)
  · refine go_iload 4 dX0_afterHour_46 rfl ?_
    exact go_iret (Om := O_X0_afterHour K a a_loud a_depth a_jarring a_snoringAt b1 a_pitch n_b1 s_a_sleepers f_a_loud f_a_depth f_a_jarring f_a_snoringAt f_b1) hR hF dX0_afterHour_48 rfl rfl (Nat.zero_le _) (Nat.zero_le _) ⟨rfl, rfl⟩
  · refine go_iload 4 dX0_afterHour_13 rfl ?_
    refine go_aload_n 0 dX0_afterHour_15 rfl rfl ?_
    refine go_aload_n 1 dX0_afterHour_16 rfl rfl ?_
    refine go_iload 5 dX0_afterHour_17 rfl ?_
    refine go_iald 5 hF rfl dX0_afterHour_19 (fun v1 hF => ?_)
    refine go_iload_n 2 dX0_afterHour_20 rfl rfl ?_
    refine go_iconst (v := (-1 : Int32)) dX0_afterHour_21 (by decide) ?_
    refine go_ixor dX0_afterHour_22 ?_
    refine go_iand dX0_afterHour_23 ?_
    refine go_aload_n 0 dX0_afterHour_24 rfl rfl ?_
    refine go_aload_n 1 dX0_afterHour_25 rfl rfl ?_
    refine go_iload 5 dX0_afterHour_26 rfl ?_
    refine go_iald 5 hF rfl dX0_afterHour_28 (fun v2 hF => ?_)
    refine go_iload_n 2 dX0_afterHour_29 rfl rfl ?_
    refine go_iload_n 3 dX0_afterHour_30 rfl rfl ?_
    obtain ⟨o3, ho3, hF⟩ := bnd_elim hF
    refine go_callV (As := [.int v2, .int p2, .int p3]) (rest := [.int (v1 &&& (p2 ^^^ (-1 : Int32))), .ref a, .int x4]) (wr := [(a_loud, .inl (kI K, 8, .inl f_a_loud)), (a_depth, .inl (kI K, 8, .inl f_a_depth)), (a_jarring, .inl (kI K, 8, .inl f_a_jarring)), (b1, .inl (kI K, n_b1, .inl f_b1))]) 0 0 hcX0 rfl (kn_X0_snorers K a a_snoringAt a_pitch a_loud a_depth a_jarring s_a_sleepers f_a_snoringAt v2 p2 p3 ho3) ok_X0_snorers ⟨Nat.le_of_ble_eq_true rfl, Nat.le_of_ble_eq_true rfl⟩ ⟨Nat.le_of_ble_eq_true rfl, Nat.le_of_ble_eq_true rfl⟩ wd606 rfl rfl (Nat.le_of_ble_eq_true rfl) dX0_afterHour_31 [0, 4] [1, 2, 3, 5] rfl rfl rfl rfl (by decide) (fun r wo hO => ?_)
    obtain ⟨rfl, rfl⟩ := hO
    refine go_ws (ws' := C_X0_afterHour K a a_loud a_depth a_jarring a_snoringAt b1 a_pitch n_b1 s_a_sleepers f_a_loud f_a_depth f_a_jarring f_a_snoringAt f_b1) [4, 0, 1, 2, 5, 3] rfl rfl ?_
    refine go_eq (pc' := 34) (st' := [.int o3, .int (v1 &&& (p2 ^^^ (-1 : Int32))), .ref a, .int x4]) rfl rfl ?_
    obtain ⟨o4, ho4, hF⟩ := bnd_elim hF
    refine go_callV (As := [.int (v1 &&& (p2 ^^^ (-1 : Int32))), .int o3]) (rest := [.int x4]) (wr := [(a_snoringAt, .inl (kI K, 12, .inl f_a_snoringAt)), (b1, .inl (kI K, n_b1, .inl f_b1))]) 0 0 hcX0 rfl (kn_X0_woken K N a a_loud a_depth a_jarring a_pitch a_snoringAt s_a_sleepers f_a_loud f_a_depth f_a_jarring (v1 &&& (p2 ^^^ (-1 : Int32))) o3 ho4) ok_X0_woken ⟨Nat.le_of_ble_eq_true rfl, Nat.le_of_ble_eq_true rfl⟩ ⟨Nat.le_of_ble_eq_true rfl, Nat.le_of_ble_eq_true rfl⟩ wd607 rfl rfl (Nat.le_of_ble_eq_true rfl) dX0_afterHour_34 [0, 1, 2, 3] [4, 5] rfl rfl rfl rfl (by decide) (fun r wo hO => ?_)
    obtain ⟨rfl, rfl⟩ := hO
    refine go_ws (ws' := C_X0_afterHour K a a_loud a_depth a_jarring a_snoringAt b1 a_pitch n_b1 s_a_sleepers f_a_loud f_a_depth f_a_jarring f_a_snoringAt f_b1) [2, 3, 4, 5, 0, 1] rfl rfl ?_
    refine go_eq (pc' := 37) (st' := [.int o4, .int x4]) rfl rfl ?_
    refine go_ior dX0_afterHour_37 ?_
    refine go_nmi hF (fun v5 hF => ?_)
    refine go_istore [(4, .int v5), (0, .ref a), (1, .ref b1), (2, .int p2), (3, .int p3), (5, .int x5)] dX0_afterHour_38 (Nat.le_of_ble_eq_true rfl) rfl ?_
    refine go_iinc 5 (fun y => [(5, .int y), (4, .int v5), (0, .ref a), (1, .ref b1), (2, .int p2), (3, .int p3)]) hF dX0_afterHour_40 rfl rfl (Nat.le_of_ble_eq_true rfl) (fun _ => rfl) (fun v6 hF => ?_)
    refine go_goto 6 dX0_afterHour_43 (by decide) ?_
    refine go_loc (L' := [(0, .ref a), (1, .ref b1), (2, .int p2), (3, .int p3), (4, .int v5), (5, .int v6)]) [2, 3, 4, 5, 1, 0] rfl ?_
    exact hk6 v5 v6 hF
theorem GL_X0_afterHour_6 {K : gK} {X : gX} {wi : va_W} {o : Int32} (N : Nat) (n_b1 : Nat) (f_a_loud : Nat → Int32) (f_a_depth : Nat → Int32) (f_a_jarring : Nat → Int32) (f_a_snoringAt : Nat → Int32) (f_b1 : Nat → Int32) (p2 : Int32) (p3 : Int32) (a : Nat) (a_loud : Nat) (a_depth : Nat) (a_jarring : Nat) (a_snoringAt : Nat) (b1 : Nat) (a_pitch : Nat) (s_a_sleepers : Int32) (hR : gR K X M_X0_afterHour wi (O_X0_afterHour K a a_loud a_depth a_jarring a_snoringAt b1 a_pitch n_b1 s_a_sleepers f_a_loud f_a_depth f_a_jarring f_a_snoringAt f_b1 o))  : ∀ (fuel : Nat) (x4 : Int32) (x5 : Int32), F_X0_afterHour_6 N n_b1 f_a_loud f_a_depth f_a_jarring f_a_snoringAt f_b1 p2 p3  fuel x4 x5 = some o → Go K X M_X0_afterHour 0 0 (C_X0_afterHour K a a_loud a_depth a_jarring a_snoringAt b1 a_pitch n_b1 s_a_sleepers f_a_loud f_a_depth f_a_jarring f_a_snoringAt f_b1) [(0, .ref a), (1, .ref b1), (2, .int p2), (3, .int p3), (4, .int x4), (5, .int x5)] 6 [] :=
  lq2_elim (fun self hs x4 x5 hF => G_X0_afterHour_6 N n_b1 f_a_loud f_a_depth f_a_jarring f_a_snoringAt f_b1 p2 p3 a a_loud a_depth a_jarring a_snoringAt b1 a_pitch s_a_sleepers hR  self hs x4 x5 hF)
noncomputable def F_X0_afterHour (N : Nat) (n_b1 : Nat) (f_a_loud : Nat → Int32) (f_a_depth : Nat → Int32) (f_a_jarring : Nat → Int32) (f_a_snoringAt : Nat → Int32) (f_b1 : Nat → Int32) (p2 : Int32) (p3 : Int32) : Option (Int32) := F_X0_afterHour_6 N n_b1 f_a_loud f_a_depth f_a_jarring f_a_snoringAt f_b1 p2 p3 N p2 (0 : Int32)
set_option maxHeartbeats 4000000 in
theorem kn_X0_afterHour (K : gK) (N : Nat) (a : Nat) (a_loud : Nat) (a_depth : Nat) (a_jarring : Nat) (a_snoringAt : Nat) (b1 : Nat) (a_pitch : Nat) (n_b1 : Nat) (s_a_sleepers : Int32) (f_a_loud : Nat → Int32) (f_a_depth : Nat → Int32) (f_a_jarring : Nat → Int32) (f_a_snoringAt : Nat → Int32) (f_b1 : Nat → Int32) (p2 : Int32) (p3 : Int32) {o : Int32} (hF : F_X0_afterHour N n_b1 f_a_loud f_a_depth f_a_jarring f_a_snoringAt f_b1 p2 p3 = some o) : Kn K M_X0_afterHour [.ref a, .ref b1, .int p2, .int p3] (C_X0_afterHour K a a_loud a_depth a_jarring a_snoringAt b1 a_pitch n_b1 s_a_sleepers f_a_loud f_a_depth f_a_jarring f_a_snoringAt f_b1) (O_X0_afterHour K a a_loud a_depth a_jarring a_snoringAt b1 a_pitch n_b1 s_a_sleepers f_a_loud f_a_depth f_a_jarring f_a_snoringAt f_b1 o) := by
  refine kn_of (by decide +kernel) (Nat.le_of_ble_eq_true rfl) (fun X hR => ?_)
  refine go_loc (L' := [(0, .ref a), (1, .ref b1), (2, .int p2), (3, .int p3)]) [0, 1, 2, 3] rfl ?_
  unfold F_X0_afterHour at hF
  refine go_iload_n 2 dX0_afterHour_0 rfl rfl ?_
  refine go_istore [(4, .int p2), (0, .ref a), (1, .ref b1), (2, .int p2), (3, .int p3)] dX0_afterHour_1 (Nat.le_of_ble_eq_true rfl) rfl ?_
  refine go_iconst (v := (0 : Int32)) dX0_afterHour_3 (by decide) ?_
  refine go_istore [(5, .int (0 : Int32)), (4, .int p2), (0, .ref a), (1, .ref b1), (2, .int p2), (3, .int p3)] dX0_afterHour_4 (Nat.le_of_ble_eq_true rfl) rfl ?_
  refine go_loc (L' := [(0, .ref a), (1, .ref b1), (2, .int p2), (3, .int p3), (4, .int p2), (5, .int (0 : Int32))]) [2, 3, 4, 5, 1, 0] rfl ?_
  exact GL_X0_afterHour_6 N n_b1 f_a_loud f_a_depth f_a_jarring f_a_snoringAt f_b1 p2 p3 a a_loud a_depth a_jarring a_snoringAt b1 a_pitch s_a_sleepers hR  N p2 (0 : Int32) hF
theorem ok_X0_afterHour : gOkV M_X0_afterHour 3 := ⟨⟨wd605, wd68, by decide +kernel, by decide +kernel, by decide +kernel⟩, wd603, wd604⟩
def C_X0_morningOfOne (K : gK) (a : Nat) (a_loud : Nat) (a_depth : Nat) (a_jarring : Nat) (a_snoringAt : Nat) (a_pitch : Nat) (s_a_sleepers : Int32) (f_a_loud : Nat → Int32) (f_a_depth : Nat → Int32) (f_a_jarring : Nat → Int32) (f_a_snoringAt : Nat → Int32) : va_W := [(a, .inr (0, [.int s_a_sleepers, .ref a_pitch, .ref a_loud, .ref a_depth, .ref a_jarring, .ref a_snoringAt])), (a_loud, .inl (kI K, 8, .inl f_a_loud)), (a_depth, .inl (kI K, 8, .inl f_a_depth)), (a_jarring, .inl (kI K, 8, .inl f_a_jarring)), (a_snoringAt, .inl (kI K, 12, .inl f_a_snoringAt))]
def M_X0_morningOfOne : gM := (yX0_morningOfOne, cX0_morningOfOne, 8, (some .int), { frames := 3, cells := 0, slots := 0, locals := 70 })
def O_X0_morningOfOne (K : gK) (a : Nat) (a_loud : Nat) (a_depth : Nat) (a_jarring : Nat) (a_snoringAt : Nat) (a_pitch : Nat) (s_a_sleepers : Int32) (f_a_loud : Nat → Int32) (f_a_depth : Nat → Int32) (f_a_jarring : Nat → Int32) (f_a_snoringAt : Nat → Int32) (o : Int32) : Option Value → va_W → Prop := fun r w => r = some (.int o) ∧ w = C_X0_morningOfOne K a a_loud a_depth a_jarring a_snoringAt a_pitch s_a_sleepers f_a_loud f_a_depth f_a_jarring f_a_snoringAt
noncomputable def B_X0_morningOfOne_9 (N : Nat) (f_a_loud : Nat → Int32) (f_a_depth : Nat → Int32) (f_a_jarring : Nat → Int32) (f_a_snoringAt : Nat → Int32) (p1 : Int32) (p2 : Int32) (p3 : Int32) (k9 : Int32 → Int32 → Int32 → Option (Int32)) (x4 : Int32) (x5 : Int32) (x6 : Int32) : Option (Int32) := if (12 : Int32) ≤ x6 then some x4 else bnd (F_X0_snorers f_a_snoringAt p1 x4 x6) (fun o1 => if o1 = x5 then nm (x6 + (1 : Int32)) (fun v2 => k9 x4 x5 v2) else bnd (F_X0_woken N f_a_loud f_a_depth f_a_jarring (p1 &&& (x4 ^^^ (-1 : Int32))) o1) (fun o3 => nm (x4 ||| o3) (fun v4 => nm (x6 + (1 : Int32)) (fun v5 => k9 v4 o1 v5))))
noncomputable def F_X0_morningOfOne_9 (N : Nat) (f_a_loud : Nat → Int32) (f_a_depth : Nat → Int32) (f_a_jarring : Nat → Int32) (f_a_snoringAt : Nat → Int32) (p1 : Int32) (p2 : Int32) (p3 : Int32)  : Nat → Int32 → Int32 → Int32 → Option (Int32) := lq3 (fun self => B_X0_morningOfOne_9 N f_a_loud f_a_depth f_a_jarring f_a_snoringAt p1 p2 p3  self)
set_option maxHeartbeats 4000000 in
theorem G_X0_morningOfOne_9 {K : gK} {X : gX} {wi : va_W} {o : Int32} (N : Nat) (f_a_loud : Nat → Int32) (f_a_depth : Nat → Int32) (f_a_jarring : Nat → Int32) (f_a_snoringAt : Nat → Int32) (p1 : Int32) (p2 : Int32) (p3 : Int32) (a : Nat) (a_loud : Nat) (a_depth : Nat) (a_jarring : Nat) (a_snoringAt : Nat) (a_pitch : Nat) (s_a_sleepers : Int32) (hR : gR K X M_X0_morningOfOne wi (O_X0_morningOfOne K a a_loud a_depth a_jarring a_snoringAt a_pitch s_a_sleepers f_a_loud f_a_depth f_a_jarring f_a_snoringAt o)) (k9 : Int32 → Int32 → Int32 → Option (Int32)) (hk9 : ∀ (x4 : Int32) (x5 : Int32) (x6 : Int32), k9 x4 x5 x6 = some o → Go K X M_X0_morningOfOne 0 0 (C_X0_morningOfOne K a a_loud a_depth a_jarring a_snoringAt a_pitch s_a_sleepers f_a_loud f_a_depth f_a_jarring f_a_snoringAt) [(0, .ref a), (1, .int p1), (4, .int x4), (5, .int x5), (6, .int x6)] 9 []) (x4 : Int32) (x5 : Int32) (x6 : Int32) (hF : B_X0_morningOfOne_9 N f_a_loud f_a_depth f_a_jarring f_a_snoringAt p1 p2 p3 k9 x4 x5 x6 = some o) : Go K X M_X0_morningOfOne 0 0 (C_X0_morningOfOne K a a_loud a_depth a_jarring a_snoringAt a_pitch s_a_sleepers f_a_loud f_a_depth f_a_jarring f_a_snoringAt) [(0, .ref a), (1, .int p1), (4, .int x4), (5, .int x5), (6, .int x6)] 9 [] := by
  unfold B_X0_morningOfOne_9 at hF
  refine go_iload 4 dX0_morningOfOne_9 rfl ?_
  refine go_bipush (v := (12 : Int32)) dX0_morningOfOne_11 (by decide) ?_
  refine go_icmp_ge 61 hF dX0_morningOfOne_13 (by decide) (fun hF => ?_) (fun hF => ?_)
  · refine go_iload 2 dX0_morningOfOne_61 rfl ?_
    exact go_iret (Om := O_X0_morningOfOne K a a_loud a_depth a_jarring a_snoringAt a_pitch s_a_sleepers f_a_loud f_a_depth f_a_jarring f_a_snoringAt) hR hF dX0_morningOfOne_63 rfl rfl (Nat.zero_le _) (Nat.zero_le _) ⟨rfl, rfl⟩
  · refine go_aload_n 0 dX0_morningOfOne_16 rfl rfl ?_
    refine go_iload_n 1 dX0_morningOfOne_17 rfl rfl ?_
    refine go_iload 2 dX0_morningOfOne_18 rfl ?_
    refine go_iload 4 dX0_morningOfOne_20 rfl ?_
    obtain ⟨o1, ho1, hF⟩ := bnd_elim hF
    refine go_callV (As := [.int p1, .int x4, .int x6]) (rest := []) (wr := [(a_loud, .inl (kI K, 8, .inl f_a_loud)), (a_depth, .inl (kI K, 8, .inl f_a_depth)), (a_jarring, .inl (kI K, 8, .inl f_a_jarring))]) 0 0 hcX0 rfl (kn_X0_snorers K a a_snoringAt a_pitch a_loud a_depth a_jarring s_a_sleepers f_a_snoringAt p1 x4 x6 ho1) ok_X0_snorers ⟨Nat.le_of_ble_eq_true rfl, Nat.le_of_ble_eq_true rfl⟩ ⟨Nat.le_of_ble_eq_true rfl, Nat.le_of_ble_eq_true rfl⟩ wd606 rfl rfl (Nat.le_of_ble_eq_true rfl) dX0_morningOfOne_22 [0, 4] [1, 2, 3] rfl rfl rfl rfl (by decide) (fun r wo hO => ?_)
    obtain ⟨rfl, rfl⟩ := hO
    refine go_ws (ws' := C_X0_morningOfOne K a a_loud a_depth a_jarring a_snoringAt a_pitch s_a_sleepers f_a_loud f_a_depth f_a_jarring f_a_snoringAt) [3, 0, 1, 2, 4] rfl rfl ?_
    refine go_eq (pc' := 25) (st' := [.int o1]) rfl rfl ?_
    refine go_istore [(7, .int o1), (0, .ref a), (1, .int p1), (4, .int x4), (5, .int x5), (6, .int x6)] dX0_morningOfOne_25 (Nat.le_of_ble_eq_true rfl) rfl ?_
    refine go_iload 0 dX0_morningOfOne_27 rfl ?_
    refine go_iload 4 dX0_morningOfOne_29 rfl ?_
    refine go_icmp_eq 55 hF dX0_morningOfOne_31 (by decide) (fun hF => ?_) (fun hF => ?_)
    · refine go_iinc 5 (fun y => [(6, .int y), (7, .int o1), (0, .ref a), (1, .int p1), (4, .int x4), (5, .int x5)]) hF dX0_morningOfOne_55 rfl rfl (Nat.le_of_ble_eq_true rfl) (fun _ => rfl) (fun v2 hF => ?_)
      refine go_goto 9 dX0_morningOfOne_58 (by decide) ?_
      refine go_loc (L' := [(0, .ref a), (1, .int p1), (4, .int x4), (5, .int x5), (6, .int v2)]) [2, 3, 4, 5, 0] rfl ?_
      exact hk9 x4 x5 v2 hF
    · refine go_iload 3 dX0_morningOfOne_34 rfl ?_
      refine go_aload_n 1 dX0_morningOfOne_36 rfl rfl ?_
      refine go_iload_n 2 dX0_morningOfOne_37 rfl rfl ?_
      refine go_iload 3 dX0_morningOfOne_38 rfl ?_
      refine go_iconst (v := (-1 : Int32)) dX0_morningOfOne_40 (by decide) ?_
      refine go_ixor dX0_morningOfOne_41 ?_
      refine go_iand dX0_morningOfOne_42 ?_
      refine go_iload 0 dX0_morningOfOne_43 rfl ?_
      obtain ⟨o3, ho3, hF⟩ := bnd_elim hF
      refine go_callV (As := [.int (p1 &&& (x4 ^^^ (-1 : Int32))), .int o1]) (rest := [.int x4]) (wr := [(a_snoringAt, .inl (kI K, 12, .inl f_a_snoringAt))]) 0 0 hcX0 rfl (kn_X0_woken K N a a_loud a_depth a_jarring a_pitch a_snoringAt s_a_sleepers f_a_loud f_a_depth f_a_jarring (p1 &&& (x4 ^^^ (-1 : Int32))) o1 ho3) ok_X0_woken ⟨Nat.le_of_ble_eq_true rfl, Nat.le_of_ble_eq_true rfl⟩ ⟨Nat.le_of_ble_eq_true rfl, Nat.le_of_ble_eq_true rfl⟩ wd607 rfl rfl (Nat.le_of_ble_eq_true rfl) dX0_morningOfOne_45 [0, 1, 2, 3] [4] rfl rfl rfl rfl (by decide) (fun r wo hO => ?_)
      obtain ⟨rfl, rfl⟩ := hO
      refine go_ws (ws' := C_X0_morningOfOne K a a_loud a_depth a_jarring a_snoringAt a_pitch s_a_sleepers f_a_loud f_a_depth f_a_jarring f_a_snoringAt) [1, 2, 3, 4, 0] rfl rfl ?_
      refine go_eq (pc' := 48) (st' := [.int o3, .int x4]) rfl rfl ?_
      refine go_ior dX0_morningOfOne_48 ?_
      refine go_nmi hF (fun v4 hF => ?_)
      refine go_istore [(4, .int v4), (7, .int o1), (0, .ref a), (1, .int p1), (5, .int x5), (6, .int x6)] dX0_morningOfOne_49 (Nat.le_of_ble_eq_true rfl) rfl ?_
      refine go_iload 1 dX0_morningOfOne_51 rfl ?_
      refine go_istore [(5, .int o1), (4, .int v4), (7, .int o1), (0, .ref a), (1, .int p1), (6, .int x6)] dX0_morningOfOne_53 (Nat.le_of_ble_eq_true rfl) rfl ?_
      refine go_iinc 5 (fun y => [(6, .int y), (5, .int o1), (4, .int v4), (7, .int o1), (0, .ref a), (1, .int p1)]) hF dX0_morningOfOne_55 rfl rfl (Nat.le_of_ble_eq_true rfl) (fun _ => rfl) (fun v5 hF => ?_)
      refine go_goto 9 dX0_morningOfOne_58 (by decide) ?_
      refine go_loc (L' := [(0, .ref a), (1, .int p1), (4, .int v4), (5, .int o1), (6, .int v5)]) [4, 5, 2, 1, 0] rfl ?_
      exact hk9 v4 o1 v5 hF
theorem GL_X0_morningOfOne_9 {K : gK} {X : gX} {wi : va_W} {o : Int32} (N : Nat) (f_a_loud : Nat → Int32) (f_a_depth : Nat → Int32) (f_a_jarring : Nat → Int32) (f_a_snoringAt : Nat → Int32) (p1 : Int32) (p2 : Int32) (p3 : Int32) (a : Nat) (a_loud : Nat) (a_depth : Nat) (a_jarring : Nat) (a_snoringAt : Nat) (a_pitch : Nat) (s_a_sleepers : Int32) (hR : gR K X M_X0_morningOfOne wi (O_X0_morningOfOne K a a_loud a_depth a_jarring a_snoringAt a_pitch s_a_sleepers f_a_loud f_a_depth f_a_jarring f_a_snoringAt o))  : ∀ (fuel : Nat) (x4 : Int32) (x5 : Int32) (x6 : Int32), F_X0_morningOfOne_9 N f_a_loud f_a_depth f_a_jarring f_a_snoringAt p1 p2 p3  fuel x4 x5 x6 = some o → Go K X M_X0_morningOfOne 0 0 (C_X0_morningOfOne K a a_loud a_depth a_jarring a_snoringAt a_pitch s_a_sleepers f_a_loud f_a_depth f_a_jarring f_a_snoringAt) [(0, .ref a), (1, .int p1), (4, .int x4), (5, .int x5), (6, .int x6)] 9 [] :=
  lq3_elim (fun self hs x4 x5 x6 hF => G_X0_morningOfOne_9 N f_a_loud f_a_depth f_a_jarring f_a_snoringAt p1 p2 p3 a a_loud a_depth a_jarring a_snoringAt a_pitch s_a_sleepers hR  self hs x4 x5 x6 hF)
noncomputable def F_X0_morningOfOne (N : Nat) (f_a_loud : Nat → Int32) (f_a_depth : Nat → Int32) (f_a_jarring : Nat → Int32) (f_a_snoringAt : Nat → Int32) (p1 : Int32) (p2 : Int32) (p3 : Int32) : Option (Int32) := F_X0_morningOfOne_9 N f_a_loud f_a_depth f_a_jarring f_a_snoringAt p1 p2 p3 N p2 (0 : Int32) p3
set_option maxHeartbeats 4000000 in
theorem kn_X0_morningOfOne (K : gK) (N : Nat) (a : Nat) (a_loud : Nat) (a_depth : Nat) (a_jarring : Nat) (a_snoringAt : Nat) (a_pitch : Nat) (s_a_sleepers : Int32) (f_a_loud : Nat → Int32) (f_a_depth : Nat → Int32) (f_a_jarring : Nat → Int32) (f_a_snoringAt : Nat → Int32) (p1 : Int32) (p2 : Int32) (p3 : Int32) {o : Int32} (hF : F_X0_morningOfOne N f_a_loud f_a_depth f_a_jarring f_a_snoringAt p1 p2 p3 = some o) : Kn K M_X0_morningOfOne [.ref a, .int p1, .int p2, .int p3] (C_X0_morningOfOne K a a_loud a_depth a_jarring a_snoringAt a_pitch s_a_sleepers f_a_loud f_a_depth f_a_jarring f_a_snoringAt) (O_X0_morningOfOne K a a_loud a_depth a_jarring a_snoringAt a_pitch s_a_sleepers f_a_loud f_a_depth f_a_jarring f_a_snoringAt o) := by
  refine kn_of (by decide +kernel) (Nat.le_of_ble_eq_true rfl) (fun X hR => ?_)
  refine go_loc (L' := [(0, .ref a), (1, .int p1), (2, .int p2), (3, .int p3)]) [0, 1, 2, 3] rfl ?_
  unfold F_X0_morningOfOne at hF
  refine go_iload_n 2 dX0_morningOfOne_0 rfl rfl ?_
  refine go_istore [(4, .int p2), (0, .ref a), (1, .int p1), (2, .int p2), (3, .int p3)] dX0_morningOfOne_1 (Nat.le_of_ble_eq_true rfl) rfl ?_
  refine go_iconst (v := (0 : Int32)) dX0_morningOfOne_3 (by decide) ?_
  refine go_istore [(5, .int (0 : Int32)), (4, .int p2), (0, .ref a), (1, .int p1), (2, .int p2), (3, .int p3)] dX0_morningOfOne_4 (Nat.le_of_ble_eq_true rfl) rfl ?_
  refine go_iload_n 5 dX0_morningOfOne_6 rfl rfl ?_
  refine go_istore [(6, .int p3), (5, .int (0 : Int32)), (4, .int p2), (0, .ref a), (1, .int p1), (2, .int p2), (3, .int p3)] dX0_morningOfOne_7 (Nat.le_of_ble_eq_true rfl) rfl ?_
  refine go_loc (L' := [(0, .ref a), (1, .int p1), (4, .int p2), (5, .int (0 : Int32)), (6, .int p3)]) [3, 4, 2, 1, 0] rfl ?_
  exact GL_X0_morningOfOne_9 N f_a_loud f_a_depth f_a_jarring f_a_snoringAt p1 p2 p3 a a_loud a_depth a_jarring a_snoringAt a_pitch s_a_sleepers hR  N p2 (0 : Int32) p3 hF
theorem ok_X0_morningOfOne : gOkV M_X0_morningOfOne 3 := ⟨⟨wd647, wd68, by decide +kernel, by decide +kernel, by decide +kernel⟩, wd645, wd646⟩
def C_X0_morning (K : gK) (a : Nat) (a_loud : Nat) (a_depth : Nat) (a_jarring : Nat) (a_snoringAt : Nat) (b1 : Nat) (a_pitch : Nat) (n_b1 : Nat) (s_a_sleepers : Int32) (f_a_loud : Nat → Int32) (f_a_depth : Nat → Int32) (f_a_jarring : Nat → Int32) (f_a_snoringAt : Nat → Int32) (f_b1 : Nat → Int32) : va_W := [(a, .inr (0, [.int s_a_sleepers, .ref a_pitch, .ref a_loud, .ref a_depth, .ref a_jarring, .ref a_snoringAt])), (a_loud, .inl (kI K, 8, .inl f_a_loud)), (a_depth, .inl (kI K, 8, .inl f_a_depth)), (a_jarring, .inl (kI K, 8, .inl f_a_jarring)), (a_snoringAt, .inl (kI K, 12, .inl f_a_snoringAt)), (b1, .inl (kI K, n_b1, .inl f_b1))]
def M_X0_morning : gM := (yX0_morning, cX0_morning, 6, (some .int), { frames := 4, cells := 0, slots := 0, locals := 97 })
def O_X0_morning (K : gK) (a : Nat) (a_loud : Nat) (a_depth : Nat) (a_jarring : Nat) (a_snoringAt : Nat) (b1 : Nat) (a_pitch : Nat) (n_b1 : Nat) (s_a_sleepers : Int32) (f_a_loud : Nat → Int32) (f_a_depth : Nat → Int32) (f_a_jarring : Nat → Int32) (f_a_snoringAt : Nat → Int32) (f_b1 : Nat → Int32) (o : Int32) : Option Value → va_W → Prop := fun r w => r = some (.int o) ∧ w = C_X0_morning K a a_loud a_depth a_jarring a_snoringAt b1 a_pitch n_b1 s_a_sleepers f_a_loud f_a_depth f_a_jarring f_a_snoringAt f_b1
noncomputable def B_X0_morning_6 (N : Nat) (n_b1 : Nat) (f_a_loud : Nat → Int32) (f_a_depth : Nat → Int32) (f_a_jarring : Nat → Int32) (f_a_snoringAt : Nat → Int32) (f_b1 : Nat → Int32) (p2 : Int32) (p3 : Int32) (k6 : Int32 → Int32 → Option (Int32)) (x4 : Int32) (x5 : Int32) : Option (Int32) := if (Int32.ofNat n_b1) ≤ x5 then some x4 else rd n_b1 f_b1 x5 (fun v1 => bnd (F_X0_morningOfOne N f_a_loud f_a_depth f_a_jarring f_a_snoringAt v1 p2 p3) (fun o2 => nm (x4 ||| o2) (fun v3 => nm (x5 + (1 : Int32)) (fun v4 => k6 v3 v4))))
noncomputable def F_X0_morning_6 (N : Nat) (n_b1 : Nat) (f_a_loud : Nat → Int32) (f_a_depth : Nat → Int32) (f_a_jarring : Nat → Int32) (f_a_snoringAt : Nat → Int32) (f_b1 : Nat → Int32) (p2 : Int32) (p3 : Int32)  : Nat → Int32 → Int32 → Option (Int32) := lq2 (fun self => B_X0_morning_6 N n_b1 f_a_loud f_a_depth f_a_jarring f_a_snoringAt f_b1 p2 p3  self)
set_option maxHeartbeats 4000000 in
theorem G_X0_morning_6 {K : gK} {X : gX} {wi : va_W} {o : Int32} (N : Nat) (n_b1 : Nat) (f_a_loud : Nat → Int32) (f_a_depth : Nat → Int32) (f_a_jarring : Nat → Int32) (f_a_snoringAt : Nat → Int32) (f_b1 : Nat → Int32) (p2 : Int32) (p3 : Int32) (a : Nat) (a_loud : Nat) (a_depth : Nat) (a_jarring : Nat) (a_snoringAt : Nat) (b1 : Nat) (a_pitch : Nat) (s_a_sleepers : Int32) (hR : gR K X M_X0_morning wi (O_X0_morning K a a_loud a_depth a_jarring a_snoringAt b1 a_pitch n_b1 s_a_sleepers f_a_loud f_a_depth f_a_jarring f_a_snoringAt f_b1 o)) (k6 : Int32 → Int32 → Option (Int32)) (hk6 : ∀ (x4 : Int32) (x5 : Int32), k6 x4 x5 = some o → Go K X M_X0_morning 0 0 (C_X0_morning K a a_loud a_depth a_jarring a_snoringAt b1 a_pitch n_b1 s_a_sleepers f_a_loud f_a_depth f_a_jarring f_a_snoringAt f_b1) [(0, .ref a), (1, .ref b1), (2, .int p2), (3, .int p3), (4, .int x4), (5, .int x5)] 6 []) (x4 : Int32) (x5 : Int32) (hF : B_X0_morning_6 N n_b1 f_a_loud f_a_depth f_a_jarring f_a_snoringAt f_b1 p2 p3 k6 x4 x5 = some o) : Go K X M_X0_morning 0 0 (C_X0_morning K a a_loud a_depth a_jarring a_snoringAt b1 a_pitch n_b1 s_a_sleepers f_a_loud f_a_depth f_a_jarring f_a_snoringAt f_b1) [(0, .ref a), (1, .ref b1), (2, .int p2), (3, .int p3), (4, .int x4), (5, .int x5)] 6 [] := by
  unfold B_X0_morning_6 at hF
  refine go_iload 5 dX0_morning_6 rfl ?_
  refine go_aload_n 1 dX0_morning_8 rfl rfl ?_
  refine go_alen (v := (Int32.ofNat n_b1)) 5 rfl rfl dX0_morning_9 ?_
  refine go_icmp_ge 34 hF dX0_morning_10 (by decide) (fun hF => ?_) (fun hF => ?_)
  · refine go_iload 4 dX0_morning_34 rfl ?_
    exact go_iret (Om := O_X0_morning K a a_loud a_depth a_jarring a_snoringAt b1 a_pitch n_b1 s_a_sleepers f_a_loud f_a_depth f_a_jarring f_a_snoringAt f_b1) hR hF dX0_morning_36 rfl rfl (Nat.zero_le _) (Nat.zero_le _) ⟨rfl, rfl⟩
  · refine go_iload 4 dX0_morning_13 rfl ?_
    refine go_aload_n 0 dX0_morning_15 rfl rfl ?_
    refine go_aload_n 1 dX0_morning_16 rfl rfl ?_
    refine go_iload 5 dX0_morning_17 rfl ?_
    refine go_iald 5 hF rfl dX0_morning_19 (fun v1 hF => ?_)
    refine go_iload_n 2 dX0_morning_20 rfl rfl ?_
    refine go_iload_n 3 dX0_morning_21 rfl rfl ?_
    obtain ⟨o2, ho2, hF⟩ := bnd_elim hF
    refine go_callV (As := [.int v1, .int p2, .int p3]) (rest := [.int x4]) (wr := [(b1, .inl (kI K, n_b1, .inl f_b1))]) 0 0 hcX0 rfl (kn_X0_morningOfOne K N a a_loud a_depth a_jarring a_snoringAt a_pitch s_a_sleepers f_a_loud f_a_depth f_a_jarring f_a_snoringAt v1 p2 p3 ho2) ok_X0_morningOfOne ⟨Nat.le_of_ble_eq_true rfl, Nat.le_of_ble_eq_true rfl⟩ ⟨Nat.le_of_ble_eq_true rfl, Nat.le_of_ble_eq_true rfl⟩ wd644 rfl rfl (Nat.le_of_ble_eq_true rfl) dX0_morning_22 [0, 1, 2, 3, 4] [5] rfl rfl rfl rfl (by decide) (fun r wo hO => ?_)
    obtain ⟨rfl, rfl⟩ := hO
    refine go_ws (ws' := C_X0_morning K a a_loud a_depth a_jarring a_snoringAt b1 a_pitch n_b1 s_a_sleepers f_a_loud f_a_depth f_a_jarring f_a_snoringAt f_b1) [1, 2, 3, 4, 5, 0] rfl rfl ?_
    refine go_eq (pc' := 25) (st' := [.int o2, .int x4]) rfl rfl ?_
    refine go_ior dX0_morning_25 ?_
    refine go_nmi hF (fun v3 hF => ?_)
    refine go_istore [(4, .int v3), (0, .ref a), (1, .ref b1), (2, .int p2), (3, .int p3), (5, .int x5)] dX0_morning_26 (Nat.le_of_ble_eq_true rfl) rfl ?_
    refine go_iinc 5 (fun y => [(5, .int y), (4, .int v3), (0, .ref a), (1, .ref b1), (2, .int p2), (3, .int p3)]) hF dX0_morning_28 rfl rfl (Nat.le_of_ble_eq_true rfl) (fun _ => rfl) (fun v4 hF => ?_)
    refine go_goto 6 dX0_morning_31 (by decide) ?_
    refine go_loc (L' := [(0, .ref a), (1, .ref b1), (2, .int p2), (3, .int p3), (4, .int v3), (5, .int v4)]) [2, 3, 4, 5, 1, 0] rfl ?_
    exact hk6 v3 v4 hF
theorem GL_X0_morning_6 {K : gK} {X : gX} {wi : va_W} {o : Int32} (N : Nat) (n_b1 : Nat) (f_a_loud : Nat → Int32) (f_a_depth : Nat → Int32) (f_a_jarring : Nat → Int32) (f_a_snoringAt : Nat → Int32) (f_b1 : Nat → Int32) (p2 : Int32) (p3 : Int32) (a : Nat) (a_loud : Nat) (a_depth : Nat) (a_jarring : Nat) (a_snoringAt : Nat) (b1 : Nat) (a_pitch : Nat) (s_a_sleepers : Int32) (hR : gR K X M_X0_morning wi (O_X0_morning K a a_loud a_depth a_jarring a_snoringAt b1 a_pitch n_b1 s_a_sleepers f_a_loud f_a_depth f_a_jarring f_a_snoringAt f_b1 o))  : ∀ (fuel : Nat) (x4 : Int32) (x5 : Int32), F_X0_morning_6 N n_b1 f_a_loud f_a_depth f_a_jarring f_a_snoringAt f_b1 p2 p3  fuel x4 x5 = some o → Go K X M_X0_morning 0 0 (C_X0_morning K a a_loud a_depth a_jarring a_snoringAt b1 a_pitch n_b1 s_a_sleepers f_a_loud f_a_depth f_a_jarring f_a_snoringAt f_b1) [(0, .ref a), (1, .ref b1), (2, .int p2), (3, .int p3), (4, .int x4), (5, .int x5)] 6 [] :=
  lq2_elim (fun self hs x4 x5 hF => G_X0_morning_6 N n_b1 f_a_loud f_a_depth f_a_jarring f_a_snoringAt f_b1 p2 p3 a a_loud a_depth a_jarring a_snoringAt b1 a_pitch s_a_sleepers hR  self hs x4 x5 hF)
noncomputable def F_X0_morning (N : Nat) (n_b1 : Nat) (f_a_loud : Nat → Int32) (f_a_depth : Nat → Int32) (f_a_jarring : Nat → Int32) (f_a_snoringAt : Nat → Int32) (f_b1 : Nat → Int32) (p2 : Int32) (p3 : Int32) : Option (Int32) := F_X0_morning_6 N n_b1 f_a_loud f_a_depth f_a_jarring f_a_snoringAt f_b1 p2 p3 N p2 (0 : Int32)
set_option maxHeartbeats 4000000 in
theorem kn_X0_morning (K : gK) (N : Nat) (a : Nat) (a_loud : Nat) (a_depth : Nat) (a_jarring : Nat) (a_snoringAt : Nat) (b1 : Nat) (a_pitch : Nat) (n_b1 : Nat) (s_a_sleepers : Int32) (f_a_loud : Nat → Int32) (f_a_depth : Nat → Int32) (f_a_jarring : Nat → Int32) (f_a_snoringAt : Nat → Int32) (f_b1 : Nat → Int32) (p2 : Int32) (p3 : Int32) {o : Int32} (hF : F_X0_morning N n_b1 f_a_loud f_a_depth f_a_jarring f_a_snoringAt f_b1 p2 p3 = some o) : Kn K M_X0_morning [.ref a, .ref b1, .int p2, .int p3] (C_X0_morning K a a_loud a_depth a_jarring a_snoringAt b1 a_pitch n_b1 s_a_sleepers f_a_loud f_a_depth f_a_jarring f_a_snoringAt f_b1) (O_X0_morning K a a_loud a_depth a_jarring a_snoringAt b1 a_pitch n_b1 s_a_sleepers f_a_loud f_a_depth f_a_jarring f_a_snoringAt f_b1 o) := by
  refine kn_of (by decide +kernel) (Nat.le_of_ble_eq_true rfl) (fun X hR => ?_)
  refine go_loc (L' := [(0, .ref a), (1, .ref b1), (2, .int p2), (3, .int p3)]) [0, 1, 2, 3] rfl ?_
  unfold F_X0_morning at hF
  refine go_iload_n 2 dX0_morning_0 rfl rfl ?_
  refine go_istore [(4, .int p2), (0, .ref a), (1, .ref b1), (2, .int p2), (3, .int p3)] dX0_morning_1 (Nat.le_of_ble_eq_true rfl) rfl ?_
  refine go_iconst (v := (0 : Int32)) dX0_morning_3 (by decide) ?_
  refine go_istore [(5, .int (0 : Int32)), (4, .int p2), (0, .ref a), (1, .ref b1), (2, .int p2), (3, .int p3)] dX0_morning_4 (Nat.le_of_ble_eq_true rfl) rfl ?_
  refine go_loc (L' := [(0, .ref a), (1, .ref b1), (2, .int p2), (3, .int p3), (4, .int p2), (5, .int (0 : Int32))]) [2, 3, 4, 5, 1, 0] rfl ?_
  exact GL_X0_morning_6 N n_b1 f_a_loud f_a_depth f_a_jarring f_a_snoringAt f_b1 p2 p3 a a_loud a_depth a_jarring a_snoringAt b1 a_pitch s_a_sleepers hR  N p2 (0 : Int32) hF
theorem ok_X0_morning : gOkV M_X0_morning 3 := ⟨⟨wd643, wd68, by decide +kernel, by decide +kernel, by decide +kernel⟩, wd641, wd642⟩

/-! the reference's constructor -/
def sA0 : sA := (fun _ _ => 0, fun _ _ => 0, fun _ _ => 0, [], fun _ _ => [])
section M18
variable (l : Launch)
set_option maxRecDepth 100000 in
set_option maxHeartbeats 4000000 in
theorem r5_init (I : Nat → Nat → Int32) (L : Nat → Nat → Int64) (R : Nat → Nat → Option Nat) (hz : ∀ k, R 27 k = none) : hm_Ct l yX5_init cX5_init 1 none 1 24 2955 [.ref 27] (I, L, R, 28) (fun r τ => r = none ∧ hm_I τ = I ∧ hm_L τ = L ∧ (∀ a k, a ≠ 27 → hm_R τ a k = R a k) ∧ (∀ k, hm_R τ 27 k = md_tab k) ∧ hm_n τ = 52) := by
  refine hm_startQ (ini := true) [.ref 27] (by decide) (fun _ => rfl) rfl (Nat.le_of_ble_eq_true rfl) (fun Q hQ => ?_)
  refine hm_aload_n dX5_init_0 rfl ?_
  refine hm_objInit lo_RX5_1 (by decide) (Nat.le_of_ble_eq_true rfl) dX5_init_1 ?_
  refine hm_aload_n dX5_init_4 rfl ?_
  refine hm_iconst dX5_init_5 (v := 4) (by decide) ?_
  refine hm_newa (by decide) rfl (by decide) rfl (by decide) (by decide) dX5_init_6 ?_
  refine hm_putRF lf_RX5_7 rfl rfl rfl rfl rfl (Nat.le_of_ble_eq_true rfl) dX5_init_8 ?_
  refine hm_aload_n dX5_init_11 rfl ?_
  refine hm_bipush dX5_init_12 (v := 8) (by decide) ?_
  refine hm_newa (by decide) rfl (by decide) rfl (by decide) (by decide) dX5_init_14 ?_
  refine hm_putRF lf_RX5_13 rfl rfl rfl rfl rfl (Nat.le_of_ble_eq_true rfl) dX5_init_16 ?_
  refine hm_aload_n dX5_init_19 rfl ?_
  refine hm_bipush dX5_init_20 (v := 8) (by decide) ?_
  refine hm_newa (by decide) rfl (by decide) rfl (by decide) (by decide) dX5_init_22 ?_
  refine hm_putRF lf_RX5_16 rfl rfl rfl rfl rfl (Nat.le_of_ble_eq_true rfl) dX5_init_24 ?_
  refine hm_aload_n dX5_init_27 rfl ?_
  refine hm_bipush dX5_init_28 (v := 8) (by decide) ?_
  refine hm_newa (by decide) rfl (by decide) rfl (by decide) (by decide) dX5_init_30 ?_
  refine hm_putRF lf_RX5_20 rfl rfl rfl rfl rfl (Nat.le_of_ble_eq_true rfl) dX5_init_32 ?_
  refine hm_aload_n dX5_init_35 rfl ?_
  refine hm_bipush dX5_init_36 (v := 8) (by decide) ?_
  refine hm_newa (by decide) rfl (by decide) rfl (by decide) (by decide) dX5_init_38 ?_
  refine hm_putRF lf_RX5_24 rfl rfl rfl rfl rfl (Nat.le_of_ble_eq_true rfl) dX5_init_40 ?_
  refine hm_aload_n dX5_init_43 rfl ?_
  refine hm_bipush dX5_init_44 (v := 8) (by decide) ?_
  refine hm_newa (by decide) rfl (by decide) rfl (by decide) (by decide) dX5_init_46 ?_
  refine hm_putRF lf_RX5_27 rfl rfl rfl rfl rfl (Nat.le_of_ble_eq_true rfl) dX5_init_48 ?_
  refine hm_aload_n dX5_init_51 rfl ?_
  refine hm_bipush dX5_init_52 (v := 8) (by decide) ?_
  refine hm_newa (by decide) rfl (by decide) rfl (by decide) (by decide) dX5_init_54 ?_
  refine hm_putRF lf_RX5_30 rfl rfl rfl rfl rfl (Nat.le_of_ble_eq_true rfl) dX5_init_56 ?_
  refine hm_aload_n dX5_init_59 rfl ?_
  refine hm_bipush dX5_init_60 (v := 8) (by decide) ?_
  refine hm_newa (by decide) rfl (by decide) rfl (by decide) (by decide) dX5_init_62 ?_
  refine hm_putRF lf_RX5_33 rfl rfl rfl rfl rfl (Nat.le_of_ble_eq_true rfl) dX5_init_64 ?_
  refine hm_aload_n dX5_init_67 rfl ?_
  refine hm_bipush dX5_init_68 (v := 16) (by decide) ?_
  refine hm_newa (by decide) rfl (by decide) rfl (by decide) (by decide) dX5_init_70 ?_
  refine hm_putRF lf_RX5_36 rfl rfl rfl rfl rfl (Nat.le_of_ble_eq_true rfl) dX5_init_72 ?_
  refine hm_aload_n dX5_init_75 rfl ?_
  refine hm_sipush dX5_init_76 (v := 2400) (by decide) ?_
  refine hm_newa (by decide) rfl (by decide) rfl (by decide) (by decide) dX5_init_79 ?_
  refine hm_putRF lf_RX5_39 rfl rfl rfl rfl rfl (Nat.le_of_ble_eq_true rfl) dX5_init_81 ?_
  refine hm_aload_n dX5_init_84 rfl ?_
  refine hm_bipush dX5_init_85 (v := 16) (by decide) ?_
  refine hm_newa (by decide) rfl (by decide) rfl (by decide) (by decide) dX5_init_87 ?_
  refine hm_putRF lf_RX5_42 rfl rfl rfl rfl rfl (Nat.le_of_ble_eq_true rfl) dX5_init_89 ?_
  refine hm_aload_n dX5_init_92 rfl ?_
  refine hm_bipush dX5_init_93 (v := 16) (by decide) ?_
  refine hm_newa (by decide) rfl (by decide) rfl (by decide) (by decide) dX5_init_95 ?_
  refine hm_putRF lf_RX5_45 rfl rfl rfl rfl rfl (Nat.le_of_ble_eq_true rfl) dX5_init_97 ?_
  refine hm_aload_n dX5_init_100 rfl ?_
  refine hm_bipush dX5_init_101 (v := 16) (by decide) ?_
  refine hm_newa (by decide) rfl (by decide) rfl (by decide) (by decide) dX5_init_103 ?_
  refine hm_putRF lf_RX5_48 rfl rfl rfl rfl rfl (Nat.le_of_ble_eq_true rfl) dX5_init_105 ?_
  refine hm_aload_n dX5_init_108 rfl ?_
  refine hm_bipush dX5_init_109 (v := 16) (by decide) ?_
  refine hm_newa (by decide) rfl (by decide) rfl (by decide) (by decide) dX5_init_111 ?_
  refine hm_putRF lf_RX5_51 rfl rfl rfl rfl rfl (Nat.le_of_ble_eq_true rfl) dX5_init_113 ?_
  refine hm_aload_n dX5_init_116 rfl ?_
  refine hm_bipush dX5_init_117 (v := 16) (by decide) ?_
  refine hm_newa (by decide) rfl (by decide) rfl (by decide) (by decide) dX5_init_119 ?_
  refine hm_putRF lf_RX5_54 rfl rfl rfl rfl rfl (Nat.le_of_ble_eq_true rfl) dX5_init_121 ?_
  refine hm_aload_n dX5_init_124 rfl ?_
  refine hm_bipush dX5_init_125 (v := 8) (by decide) ?_
  refine hm_newa (by decide) rfl (by decide) rfl (by decide) (by decide) dX5_init_127 ?_
  refine hm_putRF lf_RX5_57 rfl rfl rfl rfl rfl (Nat.le_of_ble_eq_true rfl) dX5_init_129 ?_
  refine hm_aload_n dX5_init_132 rfl ?_
  refine hm_bipush dX5_init_133 (v := 64) (by decide) ?_
  refine hm_newa (by decide) rfl (by decide) rfl (by decide) (by decide) dX5_init_135 ?_
  refine hm_putRF lf_RX5_60 rfl rfl rfl rfl rfl (Nat.le_of_ble_eq_true rfl) dX5_init_137 ?_
  refine hm_aload_n dX5_init_140 rfl ?_
  refine hm_bipush dX5_init_141 (v := 8) (by decide) ?_
  refine hm_newa (by decide) rfl (by decide) rfl (by decide) (by decide) dX5_init_143 ?_
  refine hm_putRF lf_RX5_63 rfl rfl rfl rfl rfl (Nat.le_of_ble_eq_true rfl) dX5_init_145 ?_
  refine hm_aload_n dX5_init_148 rfl ?_
  refine hm_sipush dX5_init_149 (v := 128) (by decide) ?_
  refine hm_newa (by decide) rfl (by decide) rfl (by decide) (by decide) dX5_init_152 ?_
  refine hm_putRF lf_RX5_66 rfl rfl rfl rfl rfl (Nat.le_of_ble_eq_true rfl) dX5_init_154 ?_
  refine hm_aload_n dX5_init_157 rfl ?_
  refine hm_bipush dX5_init_158 (v := 8) (by decide) ?_
  refine hm_newa (by decide) rfl (by decide) rfl (by decide) (by decide) dX5_init_160 ?_
  refine hm_putRF lf_RX5_69 rfl rfl rfl rfl rfl (Nat.le_of_ble_eq_true rfl) dX5_init_162 ?_
  refine hm_aload_n dX5_init_165 rfl ?_
  refine hm_sipush dX5_init_166 (v := 160) (by decide) ?_
  refine hm_newa (by decide) rfl (by decide) rfl (by decide) (by decide) dX5_init_169 ?_
  refine hm_putRF lf_RX5_72 rfl rfl rfl rfl rfl (Nat.le_of_ble_eq_true rfl) dX5_init_171 ?_
  refine hm_aload_n dX5_init_174 rfl ?_
  refine hm_bipush dX5_init_175 (v := 7) (by decide) ?_
  refine hm_newa (by decide) rfl (by decide) rfl (by decide) (by decide) dX5_init_177 ?_
  refine hm_putRF lf_RX5_75 rfl rfl rfl rfl rfl (Nat.le_of_ble_eq_true rfl) dX5_init_179 ?_
  refine hm_aload_n dX5_init_182 rfl ?_
  refine hm_bipush dX5_init_183 (v := 8) (by decide) ?_
  refine hm_newa (by decide) rfl (by decide) rfl (by decide) (by decide) dX5_init_185 ?_
  refine hm_putRF lf_RX5_78 rfl rfl rfl rfl rfl (Nat.le_of_ble_eq_true rfl) dX5_init_187 ?_
  refine hm_aload_n dX5_init_190 rfl ?_
  refine hm_bipush dX5_init_191 (v := 8) (by decide) ?_
  refine hm_newa (by decide) rfl (by decide) rfl (by decide) (by decide) dX5_init_193 ?_
  refine hm_putRF lf_RX5_81 rfl rfl rfl rfl rfl (Nat.le_of_ble_eq_true rfl) dX5_init_195 ?_
  refine hm_vret dX5_init_198 rfl (by decide) (by decide) ?_
  refine hQ _ _ ⟨rfl, rfl, rfl, fun a k ha => ?_, fun k => ?_, rfl⟩
  simp [hm_R_wR, hm_R_g, ha]; rfl
  match k with | 0 | 1 | 2 | 3 | 4 | 5 | 6 | 7 | 8 | 9 | 10 | 11 | 12 | 13 | 14 | 15 | 16 | 17 | 18 | 19 | 20 | 21 | 22 | 23 | 24 | 25 | 26 | 27 | 28 | 29 | 30 | 31 | 32 | 33 | 34 => (first | rfl | exact hz _) | k + 35 => exact hz _
end M18

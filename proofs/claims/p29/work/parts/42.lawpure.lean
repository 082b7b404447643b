/-! ===== what the law's methods compute (written by program out of the bytecode) ===== -/
def f_L_up (p1 : Int32) (p2 : Int32) : Option (Int32) :=
  xg (¬ p2 = 0) <|
  some ((p1 &&& 2147483647) - (p1 &&& 2147483647) / p2 * p2)
def J_L_isStep_568 (p3 : Int32) (p4 : Int32) (x_1 : Int32) (M_2 : xV) (N_3 : xV) : Option (Int32 × xV × xV) :=
  xb (f_X8_count M_2 0) fun r_4 =>
  xb (f_L_up (p4 >>> ((14 : Int32) &&& 31)) 10) fun r_6 =>
  xl (r_4 + r_6) fun x_8 =>
  xb (f_L_up (p4 >>> ((18 : Int32) &&& 31)) 8) fun r_9 =>
  xl (1 + r_9) fun x_11 =>
  xb (f_L_up (p4 >>> ((4 : Int32) &&& 31)) 3) fun r_12 =>
  xb (f_L_up (p4 >>> ((5 : Int32) &&& 31)) 7) fun r_14 =>
  xb (f_L_up (p4 >>> ((21 : Int32) &&& 31)) 9) fun r_16 =>
  xb2 (f_X8_hire M_2 r_12 (1 + r_14) x_8 x_1 x_11 (1 + r_16)) fun r_18 M_19 =>
  xb (f_L_up (p4 >>> ((4 : Int32) &&& 31)) 3) fun r_21 =>
  xb (f_L_up (p4 >>> ((5 : Int32) &&& 31)) 7) fun r_23 =>
  xb (f_L_up (p4 >>> ((21 : Int32) &&& 31)) 9) fun r_25 =>
  xb2 (f_X8_hire N_3 r_21 (1 + r_23) (x_8 + p3) x_1 x_11 (1 + r_25)) fun r_27 N_28 =>
  if r_18 = r_27 then
  xb (f_X8_clash M_19) fun r_31 =>
  xb (f_X8_clash N_28) fun r_33 =>
  if r_31 = r_33 then
  some (1, M_19, N_28)
  else
  some (0, M_19, N_28)
  else
  some (0, M_19, N_28)
def J_L_isStep_211 (x_36 : Int32) (x_37 : Int32) (M_38 : xV) (N_39 : xV) : Option (Int32 × xV × xV) :=
  xb2 (f_X8_set M_38 x_36 x_37) fun r_40 M_41 =>
  xb2 (f_X8_set N_39 x_36 x_37) fun r_43 N_44 =>
  if r_40 = r_43 then
  some (1, M_41, N_44)
  else
  some (0, M_41, N_44)
def J_L_isStep_57 (p3 : Int32) (p4 : Int32) (x_47 : Int32) (x_48 : Int32) (M_49 : xV) (N_50 : xV) : Option (Int32 × xV × xV) :=
  xb (f_L_up p4 12) fun r_51 =>
  if r_51 = 0 then
  xb (f_L_up (p4 >>> ((4 : Int32) &&& 31)) 8) fun r_54 =>
  if r_54 = 3 then
  xb (f_L_up (p4 >>> ((7 : Int32) &&& 31)) 101) fun r_68 =>
  J_L_isStep_211 r_54 r_68 M_49 N_50
  else
  if r_54 = 4 then
  xb (f_L_up (p4 >>> ((7 : Int32) &&& 31)) 4) fun r_66 =>
  J_L_isStep_211 r_54 r_66 M_49 N_50
  else
  if r_54 = 5 then
  xb (f_L_up (p4 >>> ((7 : Int32) &&& 31)) 9000) fun r_64 =>
  J_L_isStep_211 r_54 r_64 M_49 N_50
  else
  if r_54 = 7 then
  xb (f_L_up (p4 >>> ((7 : Int32) &&& 31)) 8) fun r_62 =>
  J_L_isStep_211 r_54 r_62 M_49 N_50
  else
  xb (f_L_up (p4 >>> ((7 : Int32) &&& 31)) 4000) fun r_60 =>
  J_L_isStep_211 r_54 r_60 M_49 N_50
  else if r_51 = 1 then
  xb (f_L_up (p4 >>> ((4 : Int32) &&& 31)) 3) fun r_71 =>
  xb (f_L_up (p4 >>> ((6 : Int32) &&& 31)) 9000) fun r_73 =>
  xb2 (f_X8_pay M_49 r_71 (1 + r_73)) fun r_75 M_76 =>
  xb (f_L_up (p4 >>> ((4 : Int32) &&& 31)) 3) fun r_78 =>
  xb (f_L_up (p4 >>> ((6 : Int32) &&& 31)) 9000) fun r_80 =>
  xb2 (f_X8_pay N_50 r_78 (1 + r_80)) fun r_82 N_83 =>
  if r_75 = r_82 then
  some (1, M_76, N_83)
  else
  some (0, M_76, N_83)
  else if r_51 = 2 then
  xb2 (f_X8_cancel M_49 x_48) fun r_87 M_88 =>
  xb2 (f_X8_cancel N_50 x_48) fun r_90 N_91 =>
  if r_87 = r_90 then
  some (1, M_88, N_91)
  else
  some (0, M_88, N_91)
  else if r_51 = 3 then
  xb2 (f_X8_cancel M_49 x_48) fun r_95 M_96 =>
  xb2 (f_X8_cancel N_50 x_48) fun r_98 N_99 =>
  if r_95 = r_98 then
  some (1, M_96, N_99)
  else
  some (0, M_96, N_99)
  else if r_51 = 4 then
  xb (f_L_up (p4 >>> ((4 : Int32) &&& 31)) 7) fun r_103 =>
  xl (1 + r_103) fun x_105 =>
  xb (f_X8_count M_49 0) fun r_106 =>
  if 150 < (r_106 + x_105) then
  some (1, M_49, N_50)
  else
  xb2 (f_X8_pass M_49 x_105) fun r_109 M_110 =>
  xb2 (f_X8_pass N_50 x_105) fun r_112 N_113 =>
  if r_109 = r_112 then
  some (1, M_110, N_113)
  else
  some (0, M_110, N_113)
  else if r_51 = 5 then
  xb (f_L_up (p4 >>> ((4 : Int32) &&& 31)) 7) fun r_117 =>
  xl (1 + r_117) fun x_119 =>
  xb (f_X8_count M_49 0) fun r_120 =>
  if 150 < (r_120 + x_119) then
  some (1, M_49, N_50)
  else
  xb2 (f_X8_pass M_49 x_119) fun r_123 M_124 =>
  xb2 (f_X8_pass N_50 x_119) fun r_126 N_127 =>
  if r_123 = r_126 then
  some (1, M_124, N_127)
  else
  some (0, M_124, N_127)
  else if r_51 = 6 then
  xb (f_L_up (p4 >>> ((12 : Int32) &&& 31)) 6) fun r_131 =>
  xb2 (f_X8_lend M_49 r_131 x_47) fun r_133 M_134 =>
  xb (f_L_up (p4 >>> ((12 : Int32) &&& 31)) 6) fun r_136 =>
  xb2 (f_X8_lend N_50 r_136 x_47) fun r_138 N_139 =>
  if 0 ≤ r_133 then
  if (r_133 + p3) = r_138 then
  some (1, M_134, N_139)
  else
  some (0, M_134, N_139)
  else
  if r_133 = r_138 then
  some (1, M_134, N_139)
  else
  some (0, M_134, N_139)
  else if r_51 = 7 then
  xb (f_L_up (p4 >>> ((4 : Int32) &&& 31)) 6) fun r_145 =>
  xb2 (f_X8_bringBack M_49 r_145) fun r_147 M_148 =>
  xb (f_L_up (p4 >>> ((4 : Int32) &&& 31)) 6) fun r_150 =>
  xb2 (f_X8_bringBack N_50 r_150) fun r_152 N_153 =>
  if r_147 = r_152 then
  some (1, M_148, N_153)
  else
  some (0, M_148, N_153)
  else if r_51 = 8 then
  xb (f_L_up (p4 >>> ((14 : Int32) &&& 31)) 4) fun r_157 =>
  xb2 (f_X8_report M_49 x_48 r_157) fun r_159 M_160 =>
  xb (f_L_up (p4 >>> ((14 : Int32) &&& 31)) 4) fun r_162 =>
  xb2 (f_X8_report N_50 x_48 r_162) fun r_164 N_165 =>
  if r_159 = r_164 then
  some (1, M_160, N_165)
  else
  some (0, M_160, N_165)
  else if r_51 = 9 then
  xb2 (f_X8_settle M_49 x_47) fun r_169 M_170 =>
  xb2 (f_X8_settle N_50 x_47) fun r_172 N_173 =>
  if r_169 = r_172 then
  some (1, M_170, N_173)
  else
  some (0, M_170, N_173)
  else 
  xb (f_L_up (p4 >>> ((7 : Int32) &&& 31)) 22) fun r_176 =>
  if (24 - r_176) ≤ 3 then
  xb (f_L_up (p4 >>> ((12 : Int32) &&& 31)) (24 - r_176)) fun r_179 =>
  xl ((((100 * r_176) + r_176) + 1) + r_179) fun x_181 =>
  J_L_isStep_568 p3 p4 x_181 M_49 N_50
  else
  xb (f_L_up (p4 >>> ((12 : Int32) &&& 31)) 3) fun r_182 =>
  xl ((((100 * r_176) + r_176) + 1) + r_182) fun x_184 =>
  J_L_isStep_568 p3 p4 x_184 M_49 N_50
def f_L_isStep (M : xV) (N : xV) (p3 : Int32) (p4 : Int32) : Option (Int32 × xV × xV) :=
  xb (f_X8_count M 2) fun r_185 =>
  if r_185 = 0 then
  if r_185 = 0 then
  xb (f_L_up (p4 >>> ((8 : Int32) &&& 31)) 1) fun r_205 =>
  xl (0 + r_205) fun x_207 =>
  J_L_isStep_57 p3 p4 0 x_207 M N
  else
  xb (f_X8_hireInfo M 0 4) fun r_200 =>
  xb (f_L_up (p4 >>> ((8 : Int32) &&& 31)) r_200) fun r_202 =>
  xl (0 + r_202) fun x_204 =>
  J_L_isStep_57 p3 p4 0 x_204 M N
  else
  xb (f_L_up (p4 >>> ((4 : Int32) &&& 31)) r_185) fun r_188 =>
  if r_185 = 0 then
  xb (f_L_up (p4 >>> ((8 : Int32) &&& 31)) 1) fun r_196 =>
  xl ((20 * r_188) + r_196) fun x_198 =>
  J_L_isStep_57 p3 p4 r_188 x_198 M N
  else
  xb (f_X8_hireInfo M r_188 4) fun r_191 =>
  xb (f_L_up (p4 >>> ((8 : Int32) &&& 31)) r_191) fun r_193 =>
  xl ((20 * r_188) + r_193) fun x_195 =>
  J_L_isStep_57 p3 p4 r_188 x_195 M N
def L_L_areAlike_24 (K_24 : Int32 → Int32 → Option Int32) (M : xV) (N : xV) : Nat → Int32 → Int32 → Option Int32
  | 0, _, _ => none
  | n + 1, x_2, x_3 =>
  if 29 ≤ x_3 then
  K_24 x_2 x_3
  else
  if x_2 = 0 then
  xl (x_3 + 1) fun x_6 =>
  L_L_areAlike_24 K_24 M N n 0 x_6
  else
  if x_3 = 7 then
  xl (x_3 + 1) fun x_8 =>
  L_L_areAlike_24 K_24 M N n 1 x_8
  else
  xb (f_X8_count M x_3) fun r_9 =>
  xb (f_X8_count N x_3) fun r_11 =>
  if r_9 = r_11 then
  xl (x_3 + 1) fun x_15 =>
  L_L_areAlike_24 K_24 M N n 1 x_15
  else
  xl (x_3 + 1) fun x_14 =>
  L_L_areAlike_24 K_24 M N n 0 x_14
def L_L_areAlike_81 (K_81 : Int32 → Int32 → Option Int32) (M : xV) (N : xV) (x_19 : Int32) : Nat → Int32 → Int32 → Option Int32
  | 0, _, _ => none
  | n + 1, x_21, x_22 =>
  if 7 ≤ x_22 then
  K_81 x_21 x_22
  else
  if x_21 = 0 then
  xl (x_22 + 1) fun x_25 =>
  L_L_areAlike_81 K_81 M N x_19 n 0 x_25
  else
  xb (f_X8_hirer M x_19 x_22) fun r_26 =>
  xb (f_X8_hirer N x_19 x_22) fun r_28 =>
  if r_26 = r_28 then
  xl (x_22 + 1) fun x_32 =>
  L_L_areAlike_81 K_81 M N x_19 n 1 x_32
  else
  xl (x_22 + 1) fun x_31 =>
  L_L_areAlike_81 K_81 M N x_19 n 0 x_31
def L_L_areAlike_72 (K_72 : Int32 → Int32 → Option Int32) (M : xV) (N : xV) : Nat → Int32 → Int32 → Option Int32
  | 0, _, _ => none
  | n + 1, x_18, x_19 =>
  if 3 ≤ x_19 then
  K_72 x_18 x_19
  else
  L_L_areAlike_81 (fun x_33 x_34 =>
  xl (x_19 + 1) fun x_35 =>
  L_L_areAlike_72 K_72 M N n x_33 x_35) M N x_19 100000 x_18 0
def L_L_areAlike_149 (K_149 : Int32 → Int32 → Option Int32) (M : xV) (N : xV) (p3 : Int32) (x_39 : Int32) : Nat → Int32 → Int32 → Option Int32
  | 0, _, _ => none
  | n + 1, x_44, x_45 =>
  if 16 ≤ x_45 then
  K_149 x_44 x_45
  else
  if x_44 = 0 then
  xl (x_45 + 1) fun x_48 =>
  L_L_areAlike_149 K_149 M N p3 x_39 n 0 x_48
  else
  xb (f_X8_hireInfo M x_39 x_45) fun r_49 =>
  if x_45 = 5 then
  xb (f_X8_hireInfo N x_39 x_45) fun r_57 =>
  if (r_49 + p3) = r_57 then
  xl (x_45 + 1) fun x_61 =>
  L_L_areAlike_149 K_149 M N p3 x_39 n 1 x_61
  else
  xl (x_45 + 1) fun x_60 =>
  L_L_areAlike_149 K_149 M N p3 x_39 n 0 x_60
  else
  xb (f_X8_hireInfo N x_39 x_45) fun r_52 =>
  if (r_49 + 0) = r_52 then
  xl (x_45 + 1) fun x_56 =>
  L_L_areAlike_149 K_149 M N p3 x_39 n 1 x_56
  else
  xl (x_45 + 1) fun x_55 =>
  L_L_areAlike_149 K_149 M N p3 x_39 n 0 x_55
def L_L_areAlike_209 (K_209 : Int32 → Int32 → Int32 → Option Int32) (M : xV) (N : xV) (p3 : Int32) (x_39 : Int32) : Nat → Int32 → Int32 → Int32 → Option Int32
  | 0, _, _, _ => none
  | n + 1, x_64, x_65, x_66 =>
  xb (f_X8_hireInfo M x_39 4) fun r_67 =>
  if r_67 ≤ x_66 then
  K_209 x_64 x_65 x_66
  else
  xl ((20 * x_39) + x_66) fun x_70 =>
  xb (f_X8_session M x_70 2) fun r_71 =>
  xl (x_65 + r_71) fun x_73 =>
  if x_64 = 0 then
  xl (x_66 + 1) fun x_75 =>
  L_L_areAlike_209 K_209 M N p3 x_39 n 0 x_73 x_75
  else
  xb (f_X8_session M x_70 0) fun r_76 =>
  xb (f_X8_session N x_70 0) fun r_78 =>
  if (r_76 + p3) = r_78 then
  xb (f_X8_session M x_70 3) fun r_82 =>
  xb (f_X8_session N x_70 3) fun r_84 =>
  if r_82 = r_84 then
  xb (f_X8_session M x_70 2) fun r_88 =>
  xb (f_X8_session N x_70 2) fun r_90 =>
  if r_88 = r_90 then
  xl (x_66 + 1) fun x_94 =>
  L_L_areAlike_209 K_209 M N p3 x_39 n 1 x_73 x_94
  else
  xl (x_66 + 1) fun x_93 =>
  L_L_areAlike_209 K_209 M N p3 x_39 n 0 x_73 x_93
  else
  xl (x_66 + 1) fun x_87 =>
  L_L_areAlike_209 K_209 M N p3 x_39 n 0 x_73 x_87
  else
  xl (x_66 + 1) fun x_81 =>
  L_L_areAlike_209 K_209 M N p3 x_39 n 0 x_73 x_81
def L_L_areAlike_132 (K_132 : Int32 → Int32 → Option Int32) (M : xV) (N : xV) (p3 : Int32) : Nat → Int32 → Int32 → Option Int32
  | 0, _, _ => none
  | n + 1, x_38, x_39 =>
  xb (f_X8_count M 2) fun r_40 =>
  if r_40 ≤ x_39 then
  K_132 x_38 x_39
  else
  if x_38 = 0 then
  K_132 x_38 x_39
  else
  L_L_areAlike_149 (fun x_62 x_63 =>
  L_L_areAlike_209 (fun x_95 x_96 x_97 =>
  if x_95 = 0 then
  xl (x_39 + 1) fun x_99 =>
  L_L_areAlike_132 K_132 M N p3 n 0 x_99
  else
  xb (f_X8_hireInfo M x_39 7) fun r_100 =>
  if x_96 = r_100 then
  xb (f_X8_hireInfo M x_39 9) fun r_104 =>
  xb (f_X8_hireInfo M x_39 10) fun r_106 =>
  xb (f_X8_hireInfo M x_39 11) fun r_108 =>
  xb (f_X8_hireInfo M x_39 4) fun r_110 =>
  if ((r_104 + r_106) + r_108) = r_110 then
  xl (x_39 + 1) fun x_114 =>
  L_L_areAlike_132 K_132 M N p3 n 1 x_114
  else
  xl (x_39 + 1) fun x_113 =>
  L_L_areAlike_132 K_132 M N p3 n 0 x_113
  else
  xl (x_39 + 1) fun x_103 =>
  L_L_areAlike_132 K_132 M N p3 n 0 x_103) M N p3 x_39 100000 x_62 0 0) M N p3 x_39 100000 x_38 0
def J_L_areAlike_21 (M : xV) (N : xV) (p3 : Int32) (x_1 : Int32) : Option Int32 :=
  L_L_areAlike_24 (fun x_16 x_17 =>
  L_L_areAlike_72 (fun x_36 x_37 =>
  L_L_areAlike_132 (fun x_115 x_116 =>
  xg (x_115 = 0 ∨ x_115 = 1) <|
  some x_115) M N p3 100000 x_36 0) M N 100000 x_16 0) M N 100000 x_1 1
def f_L_areAlike (M : xV) (N : xV) (p3 : Int32) : Option (Int32) :=
  xb (f_X8_count M 0) fun r_118 =>
  xb (f_X8_count N 0) fun r_120 =>
  if (r_118 + p3) = r_120 then
  J_L_areAlike_21 M N p3 1
  else
  J_L_areAlike_21 M N p3 0
def J_L_isSound_251 (M : xV) (x_1 : Int32) : Option Int32 :=
  if x_1 = 0 then
  some 0
  else
  xb (f_X8_count M 3) fun r_3 =>
  xb (f_X8_inOrder M r_3) fun r_5 =>
  if r_5 = (-2000000004) then
  xb (f_X8_count M 3) fun r_8 =>
  if r_8 = 0 then
  some 1
  else
  xb (f_X8_count M 3) fun r_11 =>
  xb (f_X8_inOrder M (r_11 - 1)) fun r_13 =>
  if r_13 < 0 then
  some 0
  else
  some 1
  else
  some 0
def J_L_isSound_194 (M : xV) (x_16 : Int32) (x_17 : Int32) : Option Int32 :=
  if x_17 = 0 then
  J_L_isSound_251 M 0
  else
  xb (f_X8_count M 20) fun r_19 =>
  xb (f_X8_count M 21) fun r_21 =>
  xb (f_X8_count M 22) fun r_23 =>
  xb (f_X8_count M 26) fun r_25 =>
  xb (f_X8_count M 27) fun r_27 =>
  xb (f_X8_count M 28) fun r_29 =>
  if x_16 = (((((r_19 - r_21) + r_23) - r_25) + r_27) - r_29) then
  J_L_isSound_251 M 1
  else
  J_L_isSound_251 M 0
def L_L_isSound_9 (K_9 : Int32 → Int32 → Int32 → Option Int32) (M : xV) : Nat → Int32 → Int32 → Int32 → Option Int32
  | 0, _, _, _ => none
  | n + 1, x_32, x_33, x_34 =>
  if 3 ≤ x_34 then
  K_9 x_32 x_33 x_34
  else
  xb (f_X8_hirer M x_34 2) fun r_36 =>
  xl (x_32 + r_36) fun x_38 =>
  xb (f_X8_hirer M x_34 6) fun r_39 =>
  xl (x_33 + r_39) fun x_41 =>
  xl (x_34 + 1) fun x_42 =>
  L_L_isSound_9 K_9 M n x_38 x_41 x_42
def L_L_isSound_55 (K_55 : Int32 → Int32 → Int32 → Int32 → Int32 → Option Int32) (M : xV) : Nat → Int32 → Int32 → Int32 → Int32 → Int32 → Option Int32
  | 0, _, _, _, _, _ => none
  | n + 1, x_48, x_49, x_50, x_51, x_52 =>
  xb (f_X8_count M 2) fun r_53 =>
  if r_53 ≤ x_52 then
  K_55 x_48 x_49 x_50 x_51 x_52
  else
  xb (f_X8_hireInfo M x_52 12) fun r_56 =>
  xl (x_49 + r_56) fun x_58 =>
  xb (f_X8_hireInfo M x_52 14) fun r_59 =>
  xl (x_50 + r_59) fun x_61 =>
  xb (f_X8_hireInfo M x_52 13) fun r_62 =>
  xl (x_48 - r_62) fun x_64 =>
  xb (f_X8_hireInfo M x_52 7) fun r_65 =>
  xl (x_51 + r_65) fun x_67 =>
  xl (x_52 + 1) fun x_68 =>
  L_L_isSound_55 K_55 M n x_64 x_58 x_61 x_67 x_68
def f_L_isSound (M : xV) : Option (Int32) :=
  L_L_isSound_9 (fun x_43 x_44 x_45 =>
  xb (f_X8_count M 4) fun r_46 =>
  L_L_isSound_55 (fun x_69 x_70 x_71 x_72 x_73 =>
  if x_71 = 6 then
  if x_69 = 0 then
  xb (f_X8_count M 23) fun r_76 =>
  if x_70 = r_76 then
  xb (f_X8_count M 20) fun r_79 =>
  if x_72 = r_79 then
  xb (f_X8_count M 22) fun r_82 =>
  xb (f_X8_count M 23) fun r_84 =>
  xb (f_X8_count M 24) fun r_86 =>
  xb (f_X8_count M 25) fun r_88 =>
  xb (f_X8_count M 26) fun r_90 =>
  if r_82 = (((r_84 + r_86) + r_88) + r_90) then
  J_L_isSound_194 M x_43 1
  else
  J_L_isSound_194 M x_43 0
  else
  J_L_isSound_194 M x_43 0
  else
  J_L_isSound_194 M x_43 0
  else
  J_L_isSound_194 M x_43 0
  else
  J_L_isSound_194 M x_43 0) M 100000 x_44 0 r_46 0 0) M 100000 0 0 0

/-! every method's rows checked, one by one -/
set_option maxRecDepth 100000 in
theorem x_ck2_0 : x_ck2 x_i0 = true := by decide +kernel
set_option maxRecDepth 100000 in
theorem x_ck2_1 : x_ck2 x_i1 = true := by decide +kernel
set_option maxRecDepth 100000 in
theorem x_ck2_2 : x_ck2 x_i2 = true := by decide +kernel
set_option maxRecDepth 100000 in
theorem x_ck2_3 : x_ck2 x_i3 = true := by decide +kernel
set_option maxRecDepth 100000 in
theorem x_ck2_4 : x_ck2 x_i4 = true := by decide +kernel
set_option maxRecDepth 100000 in
theorem x_ck2_5 : x_ck2 x_i5 = true := by decide +kernel
set_option maxRecDepth 100000 in
theorem x_ck2_6 : x_ck2 x_i6 = true := by decide +kernel
set_option maxRecDepth 100000 in
theorem x_ck2_7 : x_ck2 x_i7 = true := by decide +kernel
set_option maxRecDepth 100000 in
theorem x_ck2_8 : x_ck2 x_i8 = true := by decide +kernel
set_option maxRecDepth 100000 in
theorem x_ck2_9 : x_ck2 x_i9 = true := by decide +kernel
set_option maxRecDepth 100000 in
theorem x_ck2_10 : x_ck2 x_i10 = true := by decide +kernel
set_option maxRecDepth 100000 in
theorem x_ck2_11 : x_ck2 x_i11 = true := by decide +kernel
set_option maxRecDepth 100000 in
theorem x_ck2_12 : x_ck2 x_i12 = true := by decide +kernel
set_option maxRecDepth 100000 in
theorem x_ck2_13 : x_ck2 x_i13 = true := by decide +kernel
set_option maxRecDepth 100000 in
theorem x_ck2_14 : x_ck2 x_i14 = true := by decide +kernel
set_option maxRecDepth 100000 in
theorem x_ck2_15 : x_ck2 x_i15 = true := by decide +kernel
set_option maxRecDepth 100000 in
theorem x_ck2_16 : x_ck2 x_i16 = true := by decide +kernel
set_option maxRecDepth 100000 in
theorem x_ck2_17 : x_ck2 x_i17 = true := by decide +kernel
set_option maxRecDepth 100000 in
theorem x_ck2_18 : x_ck2 x_i18 = true := by decide +kernel
set_option maxRecDepth 100000 in
theorem x_ck2_19 : x_ck2 x_i19 = true := by decide +kernel
set_option maxRecDepth 100000 in
theorem x_ck2_20 : x_ck2 x_i20 = true := by decide +kernel
set_option maxRecDepth 100000 in
theorem x_ck2_21 : x_ck2 x_i21 = true := by decide +kernel
set_option maxRecDepth 100000 in
theorem x_ck2_22 : x_ck2 x_i22 = true := by decide +kernel
set_option maxRecDepth 100000 in
theorem x_ck2_23 : x_ck2 x_i23 = true := by decide +kernel
set_option maxRecDepth 100000 in
theorem x_ck2_24 : x_ck2 x_i24 = true := by decide +kernel
set_option maxRecDepth 100000 in
theorem x_ck2_25 : x_ck2 x_i25 = true := by decide +kernel
set_option maxRecDepth 100000 in
theorem x_ck2_26 : x_ck2 x_i26 = true := by decide +kernel
set_option maxRecDepth 100000 in
theorem x_ck2_27 : x_ck2 x_i27 = true := by decide +kernel
set_option maxRecDepth 100000 in
theorem x_ck2_28 : x_ck2 x_i28 = true := by decide +kernel
set_option maxRecDepth 100000 in
theorem x_ck2_29 : x_ck2 x_i29 = true := by decide +kernel
set_option maxRecDepth 100000 in
theorem x_ck2_30 : x_ck2 x_i30 = true := by decide +kernel
set_option maxRecDepth 100000 in
theorem x_ck2_31 : x_ck2 x_i31 = true := by decide +kernel
set_option maxRecDepth 100000 in
theorem x_ck2_32 : x_ck2 x_i32 = true := by decide +kernel
set_option maxRecDepth 100000 in
theorem x_ck2_33 : x_ck2 x_i33 = true := by decide +kernel
set_option maxRecDepth 100000 in
theorem x_ck2_34 : x_ck2 x_i34 = true := by decide +kernel
set_option maxRecDepth 100000 in
theorem x_ck2_35 : x_ck2 x_i35 = true := by decide +kernel
set_option maxRecDepth 100000 in
theorem x_ck2_36 : x_ck2 x_i36 = true := by decide +kernel
set_option maxRecDepth 100000 in
theorem x_ck2_37 : x_ck2 x_i37 = true := by decide +kernel
set_option maxRecDepth 100000 in
theorem x_ck2_38 : x_ck2 x_i38 = true := by decide +kernel
set_option maxRecDepth 100000 in
theorem x_ck2_39 : x_ck2 x_i39 = true := by decide +kernel
set_option maxRecDepth 100000 in
theorem x_ck2_40 : x_ck2 x_i40 = true := by decide +kernel
set_option maxRecDepth 100000 in
theorem x_ck2_41 : x_ck2 x_i41 = true := by decide +kernel
set_option maxRecDepth 100000 in
theorem x_ck2_42 : x_ck2 x_i42 = true := by decide +kernel
set_option maxRecDepth 100000 in
theorem x_ck2_43 : x_ck2 x_i43 = true := by decide +kernel
set_option maxRecDepth 100000 in
theorem x_ck2_44 : x_ck2 x_i44 = true := by decide +kernel
set_option maxRecDepth 100000 in
theorem x_ck2_45 : x_ck2 x_i45 = true := by decide +kernel
set_option maxRecDepth 100000 in
theorem x_ck2_46 : x_ck2 x_i46 = true := by decide +kernel
set_option maxRecDepth 100000 in
theorem x_ck2_47 : x_ck2 x_i47 = true := by decide +kernel
set_option maxRecDepth 100000 in
theorem x_ck2_48 : x_ck2 x_i48 = true := by decide +kernel
set_option maxRecDepth 100000 in
theorem x_ck2_49 : x_ck2 x_i49 = true := by decide +kernel
set_option maxRecDepth 100000 in
theorem x_ck2_50 : x_ck2 x_i50 = true := by decide +kernel
set_option maxRecDepth 100000 in
theorem x_ck2_51 : x_ck2 x_i51 = true := by decide +kernel
set_option maxRecDepth 100000 in
theorem x_ck2_52 : x_ck2 x_i52 = true := by decide +kernel
set_option maxRecDepth 100000 in
theorem x_ck2_53 : x_ck2 x_i53 = true := by decide +kernel
set_option maxRecDepth 100000 in
theorem x_ck2_54 : x_ck2 x_i54 = true := by decide +kernel
set_option maxRecDepth 100000 in
theorem x_ck2_55 : x_ck2 x_i55 = true := by decide +kernel
set_option maxRecDepth 100000 in
theorem x_ck2_56 : x_ck2 x_i56 = true := by decide +kernel
set_option maxRecDepth 100000 in
theorem x_ck2_57 : x_ck2 x_i57 = true := by decide +kernel
set_option maxRecDepth 100000 in
theorem x_ck2_58 : x_ck2 x_i58 = true := by decide +kernel
set_option maxRecDepth 100000 in
theorem x_ck2_59 : x_ck2 x_i59 = true := by decide +kernel
set_option maxRecDepth 100000 in
theorem x_ck2_60 : x_ck2 x_i60 = true := by decide +kernel
set_option maxRecDepth 100000 in
theorem x_ck2_61 : x_ck2 x_i61 = true := by decide +kernel
set_option maxRecDepth 100000 in
theorem x_ck2_62 : x_ck2 x_i62 = true := by decide +kernel
set_option maxRecDepth 100000 in
theorem x_ck2_63 : x_ck2 x_i63 = true := by decide +kernel
set_option maxRecDepth 100000 in
theorem x_ck2_64 : x_ck2 x_i64 = true := by decide +kernel
set_option maxRecDepth 100000 in
theorem x_ck2_65 : x_ck2 x_i65 = true := by decide +kernel
set_option maxRecDepth 100000 in
theorem x_ck2_66 : x_ck2 x_i66 = true := by decide +kernel
set_option maxRecDepth 100000 in
theorem x_ck2_67 : x_ck2 x_i67 = true := by decide +kernel
set_option maxRecDepth 100000 in
theorem x_ck2_68 : x_ck2 x_i68 = true := by decide +kernel
set_option maxRecDepth 100000 in
theorem x_ck2_69 : x_ck2 x_i69 = true := by decide +kernel
set_option maxRecDepth 100000 in
theorem x_ck2_70 : x_ck2 x_i70 = true := by decide +kernel
set_option maxRecDepth 100000 in
theorem x_ck2_71 : x_ck2 x_i71 = true := by decide +kernel
set_option maxRecDepth 100000 in
theorem x_ck2_72 : x_ck2 x_i72 = true := by decide +kernel
set_option maxRecDepth 100000 in
theorem x_ck2_73 : x_ck2 x_i73 = true := by decide +kernel
set_option maxRecDepth 100000 in
theorem x_ck2_74 : x_ck2 x_i74 = true := by decide +kernel
set_option maxRecDepth 100000 in
theorem x_ck2_75 : x_ck2 x_i75 = true := by decide +kernel
set_option maxRecDepth 100000 in
theorem x_ck2_76 : x_ck2 x_i76 = true := by decide +kernel
set_option maxRecDepth 100000 in
theorem x_ck2_77 : x_ck2 x_i77 = true := by decide +kernel
set_option maxRecDepth 100000 in
theorem x_ck2_78 : x_ck2 x_i78 = true := by decide +kernel
set_option maxRecDepth 100000 in
theorem x_ck2_79 : x_ck2 x_i79 = true := by decide +kernel
set_option maxRecDepth 100000 in
theorem x_ck2_80 : x_ck2 x_i80 = true := by decide +kernel
set_option maxRecDepth 100000 in
theorem x_ck2_81 : x_ck2 x_i81 = true := by decide +kernel
set_option maxRecDepth 100000 in
theorem x_ck2_82 : x_ck2 x_i82 = true := by decide +kernel
set_option maxRecDepth 100000 in
theorem x_ck2_83 : x_ck2 x_i83 = true := by decide +kernel
set_option maxRecDepth 100000 in
theorem x_ck2_84 : x_ck2 x_i84 = true := by decide +kernel
set_option maxRecDepth 100000 in
theorem x_ck2_85 : x_ck2 x_i85 = true := by decide +kernel
set_option maxRecDepth 100000 in
theorem x_ck2_86 : x_ck2 x_i86 = true := by decide +kernel
set_option maxRecDepth 100000 in
theorem x_ck2_87 : x_ck2 x_i87 = true := by decide +kernel
set_option maxRecDepth 100000 in
theorem x_ck2_88 : x_ck2 x_i88 = true := by decide +kernel
set_option maxRecDepth 100000 in
theorem x_ck2_89 : x_ck2 x_i89 = true := by decide +kernel
set_option maxRecDepth 100000 in
theorem x_ck2_90 : x_ck2 x_i90 = true := by decide +kernel
set_option maxRecDepth 100000 in
theorem x_ck2_91 : x_ck2 x_i91 = true := by decide +kernel
set_option maxRecDepth 100000 in
theorem x_ck2_92 : x_ck2 x_i92 = true := by decide +kernel
set_option maxRecDepth 100000 in
theorem x_ck2_93 : x_ck2 x_i93 = true := by decide +kernel
set_option maxRecDepth 100000 in
theorem x_ck2_94 : x_ck2 x_i94 = true := by decide +kernel
set_option maxRecDepth 100000 in
theorem x_ck2_95 : x_ck2 x_i95 = true := by decide +kernel
set_option maxRecDepth 100000 in
theorem x_ck2_96 : x_ck2 x_i96 = true := by decide +kernel
set_option maxRecDepth 100000 in
theorem x_ck2_97 : x_ck2 x_i97 = true := by decide +kernel
set_option maxRecDepth 100000 in
theorem x_ck2_98 : x_ck2 x_i98 = true := by decide +kernel
set_option maxRecDepth 100000 in
theorem x_ck2_99 : x_ck2 x_i99 = true := by decide +kernel
set_option maxRecDepth 100000 in
theorem x_ck2_100 : x_ck2 x_i100 = true := by decide +kernel
set_option maxRecDepth 100000 in
theorem x_ck2_101 : x_ck2 x_i101 = true := by decide +kernel
set_option maxRecDepth 100000 in
theorem x_ck2_102 : x_ck2 x_i102 = true := by decide +kernel
set_option maxRecDepth 100000 in
theorem x_ck2_103 : x_ck2 x_i103 = true := by decide +kernel
set_option maxRecDepth 100000 in
theorem x_ck2_104 : x_ck2 x_i104 = true := by decide +kernel
set_option maxRecDepth 100000 in
theorem x_ck2_105 : x_ck2 x_i105 = true := by decide +kernel
set_option maxRecDepth 100000 in
theorem x_ck2_106 : x_ck2 x_i106 = true := by decide +kernel
set_option maxRecDepth 100000 in
theorem x_ck2_107 : x_ck2 x_i107 = true := by decide +kernel
set_option maxRecDepth 100000 in
theorem x_ck2_108 : x_ck2 x_i108 = true := by decide +kernel
set_option maxRecDepth 100000 in
theorem x_ck2_109 : x_ck2 x_i109 = true := by decide +kernel
set_option maxRecDepth 100000 in
theorem x_ck2_110 : x_ck2 x_i110 = true := by decide +kernel
set_option maxRecDepth 100000 in
theorem x_ck2_111 : x_ck2 x_i111 = true := by decide +kernel
set_option maxRecDepth 100000 in
theorem x_ck2_112 : x_ck2 x_i112 = true := by decide +kernel
set_option maxRecDepth 100000 in
theorem x_ck2_113 : x_ck2 x_i113 = true := by decide +kernel
set_option maxRecDepth 100000 in
theorem x_ck2_114 : x_ck2 x_i114 = true := by decide +kernel
set_option maxRecDepth 100000 in
theorem x_ck2_115 : x_ck2 x_i115 = true := by decide +kernel
set_option maxRecDepth 100000 in
theorem x_ck2_116 : x_ck2 x_i116 = true := by decide +kernel
set_option maxRecDepth 100000 in
theorem x_ck2_117 : x_ck2 x_i117 = true := by decide +kernel
set_option maxRecDepth 100000 in
theorem x_ck2_118 : x_ck2 x_i118 = true := by decide +kernel
set_option maxRecDepth 100000 in
theorem x_ck2_119 : x_ck2 x_i119 = true := by decide +kernel
set_option maxRecDepth 100000 in
theorem x_ck2_120 : x_ck2 x_i120 = true := by decide +kernel
set_option maxRecDepth 100000 in
theorem x_ck2_121 : x_ck2 x_i121 = true := by decide +kernel
set_option maxRecDepth 100000 in
theorem x_ck2_122 : x_ck2 x_i122 = true := by decide +kernel
set_option maxRecDepth 100000 in
theorem x_ck2_123 : x_ck2 x_i123 = true := by decide +kernel
set_option maxRecDepth 100000 in
theorem x_ck2_124 : x_ck2 x_i124 = true := by decide +kernel
set_option maxRecDepth 100000 in
theorem x_ck2_125 : x_ck2 x_i125 = true := by decide +kernel
set_option maxRecDepth 100000 in
theorem x_ck2_126 : x_ck2 x_i126 = true := by decide +kernel
set_option maxRecDepth 100000 in
theorem x_ck2_127 : x_ck2 x_i127 = true := by decide +kernel
set_option maxRecDepth 100000 in
theorem x_ck2_128 : x_ck2 x_i128 = true := by decide +kernel
set_option maxRecDepth 100000 in
theorem x_ck2_129 : x_ck2 x_i129 = true := by decide +kernel
set_option maxRecDepth 100000 in
theorem x_ck2_130 : x_ck2 x_i130 = true := by decide +kernel
set_option maxRecDepth 100000 in
theorem x_ck2_131 : x_ck2 x_i131 = true := by decide +kernel
set_option maxRecDepth 100000 in
theorem x_ck2_132 : x_ck2 x_i132 = true := by decide +kernel
set_option maxRecDepth 100000 in
theorem x_ck2_133 : x_ck2 x_i133 = true := by decide +kernel
set_option maxRecDepth 100000 in
theorem x_ck2_134 : x_ck2 x_i134 = true := by decide +kernel
set_option maxRecDepth 100000 in
theorem x_ck2_135 : x_ck2 x_i135 = true := by decide +kernel
set_option maxRecDepth 100000 in
theorem x_ck2_136 : x_ck2 x_i136 = true := by decide +kernel
set_option maxRecDepth 100000 in
theorem x_ck2_137 : x_ck2 x_i137 = true := by decide +kernel
set_option maxRecDepth 100000 in
theorem x_ck2_138 : x_ck2 x_i138 = true := by decide +kernel
set_option maxRecDepth 100000 in
theorem x_ck2_139 : x_ck2 x_i139 = true := by decide +kernel
set_option maxRecDepth 100000 in
theorem x_ck2_140 : x_ck2 x_i140 = true := by decide +kernel
set_option maxRecDepth 100000 in
theorem x_ck2_141 : x_ck2 x_i141 = true := by decide +kernel
set_option maxRecDepth 100000 in
theorem x_ck2_142 : x_ck2 x_i142 = true := by decide +kernel
set_option maxRecDepth 100000 in
theorem x_ck2_143 : x_ck2 x_i143 = true := by decide +kernel
set_option maxRecDepth 100000 in
theorem x_ck2_144 : x_ck2 x_i144 = true := by decide +kernel
set_option maxRecDepth 100000 in
theorem x_ck2_145 : x_ck2 x_i145 = true := by decide +kernel
set_option maxRecDepth 100000 in
theorem x_ck2_146 : x_ck2 x_i146 = true := by decide +kernel
set_option maxRecDepth 100000 in
theorem x_ck2_147 : x_ck2 x_i147 = true := by decide +kernel
set_option maxRecDepth 100000 in
theorem x_ck2_148 : x_ck2 x_i148 = true := by decide +kernel
set_option maxRecDepth 100000 in
theorem x_ck2_149 : x_ck2 x_i149 = true := by decide +kernel
set_option maxRecDepth 100000 in
theorem x_ck2_150 : x_ck2 x_i150 = true := by decide +kernel
set_option maxRecDepth 100000 in
theorem x_ck2_151 : x_ck2 x_i151 = true := by decide +kernel
set_option maxRecDepth 100000 in
theorem x_ck2_152 : x_ck2 x_i152 = true := by decide +kernel
set_option maxRecDepth 100000 in
theorem x_ck2_153 : x_ck2 x_i153 = true := by decide +kernel
set_option maxRecDepth 100000 in
theorem x_ck2_154 : x_ck2 x_i154 = true := by decide +kernel
set_option maxRecDepth 100000 in
theorem x_ck2_155 : x_ck2 x_i155 = true := by decide +kernel
set_option maxRecDepth 100000 in
theorem x_ck2_156 : x_ck2 x_i156 = true := by decide +kernel
set_option maxRecDepth 100000 in
theorem x_ck2_157 : x_ck2 x_i157 = true := by decide +kernel
set_option maxRecDepth 100000 in
theorem x_ck2_158 : x_ck2 x_i158 = true := by decide +kernel
set_option maxRecDepth 100000 in
theorem x_ck2_159 : x_ck2 x_i159 = true := by decide +kernel
set_option maxRecDepth 100000 in
theorem x_ck2_160 : x_ck2 x_i160 = true := by decide +kernel
set_option maxRecDepth 100000 in
theorem x_ck2_161 : x_ck2 x_i161 = true := by decide +kernel
set_option maxRecDepth 100000 in
theorem x_ck2_162 : x_ck2 x_i162 = true := by decide +kernel
set_option maxRecDepth 100000 in
theorem x_ck2_163 : x_ck2 x_i163 = true := by decide +kernel
set_option maxRecDepth 100000 in
theorem x_ck2_164 : x_ck2 x_i164 = true := by decide +kernel
set_option maxRecDepth 100000 in
theorem x_ck2_165 : x_ck2 x_i165 = true := by decide +kernel
set_option maxRecDepth 100000 in
theorem x_ck2_166 : x_ck2 x_i166 = true := by decide +kernel
set_option maxRecDepth 100000 in
theorem x_ck2_167 : x_ck2 x_i167 = true := by decide +kernel
set_option maxRecDepth 100000 in
theorem x_ck2_168 : x_ck2 x_i168 = true := by decide +kernel
set_option maxRecDepth 100000 in
theorem x_ck2_169 : x_ck2 x_i169 = true := by decide +kernel
set_option maxRecDepth 100000 in
theorem x_ck2_170 : x_ck2 x_i170 = true := by decide +kernel
set_option maxRecDepth 100000 in
theorem x_ck2_171 : x_ck2 x_i171 = true := by decide +kernel
set_option maxRecDepth 100000 in
theorem x_ck2_all : ∀ i ∈ x_tab, x_ck2 i = true := List.forall_mem_cons.mpr ⟨x_ck2_0, List.forall_mem_cons.mpr ⟨x_ck2_1, List.forall_mem_cons.mpr ⟨x_ck2_2, List.forall_mem_cons.mpr ⟨x_ck2_3, List.forall_mem_cons.mpr ⟨x_ck2_4, List.forall_mem_cons.mpr ⟨x_ck2_5, List.forall_mem_cons.mpr ⟨x_ck2_6, List.forall_mem_cons.mpr ⟨x_ck2_7, List.forall_mem_cons.mpr ⟨x_ck2_8, List.forall_mem_cons.mpr ⟨x_ck2_9, List.forall_mem_cons.mpr ⟨x_ck2_10, List.forall_mem_cons.mpr ⟨x_ck2_11, List.forall_mem_cons.mpr ⟨x_ck2_12, List.forall_mem_cons.mpr ⟨x_ck2_13, List.forall_mem_cons.mpr ⟨x_ck2_14, List.forall_mem_cons.mpr ⟨x_ck2_15, List.forall_mem_cons.mpr ⟨x_ck2_16, List.forall_mem_cons.mpr ⟨x_ck2_17, List.forall_mem_cons.mpr ⟨x_ck2_18, List.forall_mem_cons.mpr ⟨x_ck2_19, List.forall_mem_cons.mpr ⟨x_ck2_20, List.forall_mem_cons.mpr ⟨x_ck2_21, List.forall_mem_cons.mpr ⟨x_ck2_22, List.forall_mem_cons.mpr ⟨x_ck2_23, List.forall_mem_cons.mpr ⟨x_ck2_24, List.forall_mem_cons.mpr ⟨x_ck2_25, List.forall_mem_cons.mpr ⟨x_ck2_26, List.forall_mem_cons.mpr ⟨x_ck2_27, List.forall_mem_cons.mpr ⟨x_ck2_28, List.forall_mem_cons.mpr ⟨x_ck2_29, List.forall_mem_cons.mpr ⟨x_ck2_30, List.forall_mem_cons.mpr ⟨x_ck2_31, List.forall_mem_cons.mpr ⟨x_ck2_32, List.forall_mem_cons.mpr ⟨x_ck2_33, List.forall_mem_cons.mpr ⟨x_ck2_34, List.forall_mem_cons.mpr ⟨x_ck2_35, List.forall_mem_cons.mpr ⟨x_ck2_36, List.forall_mem_cons.mpr ⟨x_ck2_37, List.forall_mem_cons.mpr ⟨x_ck2_38, List.forall_mem_cons.mpr ⟨x_ck2_39, List.forall_mem_cons.mpr ⟨x_ck2_40, List.forall_mem_cons.mpr ⟨x_ck2_41, List.forall_mem_cons.mpr ⟨x_ck2_42, List.forall_mem_cons.mpr ⟨x_ck2_43, List.forall_mem_cons.mpr ⟨x_ck2_44, List.forall_mem_cons.mpr ⟨x_ck2_45, List.forall_mem_cons.mpr ⟨x_ck2_46, List.forall_mem_cons.mpr ⟨x_ck2_47, List.forall_mem_cons.mpr ⟨x_ck2_48, List.forall_mem_cons.mpr ⟨x_ck2_49, List.forall_mem_cons.mpr ⟨x_ck2_50, List.forall_mem_cons.mpr ⟨x_ck2_51, List.forall_mem_cons.mpr ⟨x_ck2_52, List.forall_mem_cons.mpr ⟨x_ck2_53, List.forall_mem_cons.mpr ⟨x_ck2_54, List.forall_mem_cons.mpr ⟨x_ck2_55, List.forall_mem_cons.mpr ⟨x_ck2_56, List.forall_mem_cons.mpr ⟨x_ck2_57, List.forall_mem_cons.mpr ⟨x_ck2_58, List.forall_mem_cons.mpr ⟨x_ck2_59, List.forall_mem_cons.mpr ⟨x_ck2_60, List.forall_mem_cons.mpr ⟨x_ck2_61, List.forall_mem_cons.mpr ⟨x_ck2_62, List.forall_mem_cons.mpr ⟨x_ck2_63, List.forall_mem_cons.mpr ⟨x_ck2_64, List.forall_mem_cons.mpr ⟨x_ck2_65, List.forall_mem_cons.mpr ⟨x_ck2_66, List.forall_mem_cons.mpr ⟨x_ck2_67, List.forall_mem_cons.mpr ⟨x_ck2_68, List.forall_mem_cons.mpr ⟨x_ck2_69, List.forall_mem_cons.mpr ⟨x_ck2_70, List.forall_mem_cons.mpr ⟨x_ck2_71, List.forall_mem_cons.mpr ⟨x_ck2_72, List.forall_mem_cons.mpr ⟨x_ck2_73, List.forall_mem_cons.mpr ⟨x_ck2_74, List.forall_mem_cons.mpr ⟨x_ck2_75, List.forall_mem_cons.mpr ⟨x_ck2_76, List.forall_mem_cons.mpr ⟨x_ck2_77, List.forall_mem_cons.mpr ⟨x_ck2_78, List.forall_mem_cons.mpr ⟨x_ck2_79, List.forall_mem_cons.mpr ⟨x_ck2_80, List.forall_mem_cons.mpr ⟨x_ck2_81, List.forall_mem_cons.mpr ⟨x_ck2_82, List.forall_mem_cons.mpr ⟨x_ck2_83, List.forall_mem_cons.mpr ⟨x_ck2_84, List.forall_mem_cons.mpr ⟨x_ck2_85, List.forall_mem_cons.mpr ⟨x_ck2_86, List.forall_mem_cons.mpr ⟨x_ck2_87, List.forall_mem_cons.mpr ⟨x_ck2_88, List.forall_mem_cons.mpr ⟨x_ck2_89, List.forall_mem_cons.mpr ⟨x_ck2_90, List.forall_mem_cons.mpr ⟨x_ck2_91, List.forall_mem_cons.mpr ⟨x_ck2_92, List.forall_mem_cons.mpr ⟨x_ck2_93, List.forall_mem_cons.mpr ⟨x_ck2_94, List.forall_mem_cons.mpr ⟨x_ck2_95, List.forall_mem_cons.mpr ⟨x_ck2_96, List.forall_mem_cons.mpr ⟨x_ck2_97, List.forall_mem_cons.mpr ⟨x_ck2_98, List.forall_mem_cons.mpr ⟨x_ck2_99, List.forall_mem_cons.mpr ⟨x_ck2_100, List.forall_mem_cons.mpr ⟨x_ck2_101, List.forall_mem_cons.mpr ⟨x_ck2_102, List.forall_mem_cons.mpr ⟨x_ck2_103, List.forall_mem_cons.mpr ⟨x_ck2_104, List.forall_mem_cons.mpr ⟨x_ck2_105, List.forall_mem_cons.mpr ⟨x_ck2_106, List.forall_mem_cons.mpr ⟨x_ck2_107, List.forall_mem_cons.mpr ⟨x_ck2_108, List.forall_mem_cons.mpr ⟨x_ck2_109, List.forall_mem_cons.mpr ⟨x_ck2_110, List.forall_mem_cons.mpr ⟨x_ck2_111, List.forall_mem_cons.mpr ⟨x_ck2_112, List.forall_mem_cons.mpr ⟨x_ck2_113, List.forall_mem_cons.mpr ⟨x_ck2_114, List.forall_mem_cons.mpr ⟨x_ck2_115, List.forall_mem_cons.mpr ⟨x_ck2_116, List.forall_mem_cons.mpr ⟨x_ck2_117, List.forall_mem_cons.mpr ⟨x_ck2_118, List.forall_mem_cons.mpr ⟨x_ck2_119, List.forall_mem_cons.mpr ⟨x_ck2_120, List.forall_mem_cons.mpr ⟨x_ck2_121, List.forall_mem_cons.mpr ⟨x_ck2_122, List.forall_mem_cons.mpr ⟨x_ck2_123, List.forall_mem_cons.mpr ⟨x_ck2_124, List.forall_mem_cons.mpr ⟨x_ck2_125, List.forall_mem_cons.mpr ⟨x_ck2_126, List.forall_mem_cons.mpr ⟨x_ck2_127, List.forall_mem_cons.mpr ⟨x_ck2_128, List.forall_mem_cons.mpr ⟨x_ck2_129, List.forall_mem_cons.mpr ⟨x_ck2_130, List.forall_mem_cons.mpr ⟨x_ck2_131, List.forall_mem_cons.mpr ⟨x_ck2_132, List.forall_mem_cons.mpr ⟨x_ck2_133, List.forall_mem_cons.mpr ⟨x_ck2_134, List.forall_mem_cons.mpr ⟨x_ck2_135, List.forall_mem_cons.mpr ⟨x_ck2_136, List.forall_mem_cons.mpr ⟨x_ck2_137, List.forall_mem_cons.mpr ⟨x_ck2_138, List.forall_mem_cons.mpr ⟨x_ck2_139, List.forall_mem_cons.mpr ⟨x_ck2_140, List.forall_mem_cons.mpr ⟨x_ck2_141, List.forall_mem_cons.mpr ⟨x_ck2_142, List.forall_mem_cons.mpr ⟨x_ck2_143, List.forall_mem_cons.mpr ⟨x_ck2_144, List.forall_mem_cons.mpr ⟨x_ck2_145, List.forall_mem_cons.mpr ⟨x_ck2_146, List.forall_mem_cons.mpr ⟨x_ck2_147, List.forall_mem_cons.mpr ⟨x_ck2_148, List.forall_mem_cons.mpr ⟨x_ck2_149, List.forall_mem_cons.mpr ⟨x_ck2_150, List.forall_mem_cons.mpr ⟨x_ck2_151, List.forall_mem_cons.mpr ⟨x_ck2_152, List.forall_mem_cons.mpr ⟨x_ck2_153, List.forall_mem_cons.mpr ⟨x_ck2_154, List.forall_mem_cons.mpr ⟨x_ck2_155, List.forall_mem_cons.mpr ⟨x_ck2_156, List.forall_mem_cons.mpr ⟨x_ck2_157, List.forall_mem_cons.mpr ⟨x_ck2_158, List.forall_mem_cons.mpr ⟨x_ck2_159, List.forall_mem_cons.mpr ⟨x_ck2_160, List.forall_mem_cons.mpr ⟨x_ck2_161, List.forall_mem_cons.mpr ⟨x_ck2_162, List.forall_mem_cons.mpr ⟨x_ck2_163, List.forall_mem_cons.mpr ⟨x_ck2_164, List.forall_mem_cons.mpr ⟨x_ck2_165, List.forall_mem_cons.mpr ⟨x_ck2_166, List.forall_mem_cons.mpr ⟨x_ck2_167, List.forall_mem_cons.mpr ⟨x_ck2_168, List.forall_mem_cons.mpr ⟨x_ck2_169, List.forall_mem_cons.mpr ⟨x_ck2_170, List.forall_mem_cons.mpr ⟨x_ck2_171, fun _ h => absurd h List.not_mem_nil⟩⟩⟩⟩⟩⟩⟩⟩⟩⟩⟩⟩⟩⟩⟩⟩⟩⟩⟩⟩⟩⟩⟩⟩⟩⟩⟩⟩⟩⟩⟩⟩⟩⟩⟩⟩⟩⟩⟩⟩⟩⟩⟩⟩⟩⟩⟩⟩⟩⟩⟩⟩⟩⟩⟩⟩⟩⟩⟩⟩⟩⟩⟩⟩⟩⟩⟩⟩⟩⟩⟩⟩⟩⟩⟩⟩⟩⟩⟩⟩⟩⟩⟩⟩⟩⟩⟩⟩⟩⟩⟩⟩⟩⟩⟩⟩⟩⟩⟩⟩⟩⟩⟩⟩⟩⟩⟩⟩⟩⟩⟩⟩⟩⟩⟩⟩⟩⟩⟩⟩⟩⟩⟩⟩⟩⟩⟩⟩⟩⟩⟩⟩⟩⟩⟩⟩⟩⟩⟩⟩⟩⟩⟩⟩⟩⟩⟩⟩⟩⟩⟩⟩⟩⟩⟩⟩⟩⟩⟩⟩⟩⟩⟩⟩⟩⟩⟩⟩⟩⟩⟩⟩
set_option maxRecDepth 100000 in
theorem x_ck4_0 : x_ck4 x_i0 = true := by decide +kernel
set_option maxRecDepth 100000 in
theorem x_ck4_1 : x_ck4 x_i1 = true := by decide +kernel
set_option maxRecDepth 100000 in
theorem x_ck4_2 : x_ck4 x_i2 = true := by decide +kernel
set_option maxRecDepth 100000 in
theorem x_ck4_3 : x_ck4 x_i3 = true := by decide +kernel
set_option maxRecDepth 100000 in
theorem x_ck4_4 : x_ck4 x_i4 = true := by decide +kernel
set_option maxRecDepth 100000 in
theorem x_ck4_5 : x_ck4 x_i5 = true := by decide +kernel
set_option maxRecDepth 100000 in
theorem x_ck4_6 : x_ck4 x_i6 = true := by decide +kernel
set_option maxRecDepth 100000 in
theorem x_ck4_7 : x_ck4 x_i7 = true := by decide +kernel
set_option maxRecDepth 100000 in
theorem x_ck4_8 : x_ck4 x_i8 = true := by decide +kernel
set_option maxRecDepth 100000 in
theorem x_ck4_9 : x_ck4 x_i9 = true := by decide +kernel
set_option maxRecDepth 100000 in
theorem x_ck4_10 : x_ck4 x_i10 = true := by decide +kernel
set_option maxRecDepth 100000 in
theorem x_ck4_11 : x_ck4 x_i11 = true := by decide +kernel
set_option maxRecDepth 100000 in
theorem x_ck4_12 : x_ck4 x_i12 = true := by decide +kernel
set_option maxRecDepth 100000 in
theorem x_ck4_13 : x_ck4 x_i13 = true := by decide +kernel
set_option maxRecDepth 100000 in
theorem x_ck4_14 : x_ck4 x_i14 = true := by decide +kernel
set_option maxRecDepth 100000 in
theorem x_ck4_15 : x_ck4 x_i15 = true := by decide +kernel
set_option maxRecDepth 100000 in
theorem x_ck4_16 : x_ck4 x_i16 = true := by decide +kernel
set_option maxRecDepth 100000 in
theorem x_ck4_17 : x_ck4 x_i17 = true := by decide +kernel
set_option maxRecDepth 100000 in
theorem x_ck4_18 : x_ck4 x_i18 = true := by decide +kernel
set_option maxRecDepth 100000 in
theorem x_ck4_19 : x_ck4 x_i19 = true := by decide +kernel
set_option maxRecDepth 100000 in
theorem x_ck4_20 : x_ck4 x_i20 = true := by decide +kernel
set_option maxRecDepth 100000 in
theorem x_ck4_21 : x_ck4 x_i21 = true := by decide +kernel
set_option maxRecDepth 100000 in
theorem x_ck4_22 : x_ck4 x_i22 = true := by decide +kernel
set_option maxRecDepth 100000 in
theorem x_ck4_23 : x_ck4 x_i23 = true := by decide +kernel
set_option maxRecDepth 100000 in
theorem x_ck4_24 : x_ck4 x_i24 = true := by decide +kernel
set_option maxRecDepth 100000 in
theorem x_ck4_25 : x_ck4 x_i25 = true := by decide +kernel
set_option maxRecDepth 100000 in
theorem x_ck4_26 : x_ck4 x_i26 = true := by decide +kernel
set_option maxRecDepth 100000 in
theorem x_ck4_27 : x_ck4 x_i27 = true := by decide +kernel
set_option maxRecDepth 100000 in
theorem x_ck4_28 : x_ck4 x_i28 = true := by decide +kernel
set_option maxRecDepth 100000 in
theorem x_ck4_29 : x_ck4 x_i29 = true := by decide +kernel
set_option maxRecDepth 100000 in
theorem x_ck4_30 : x_ck4 x_i30 = true := by decide +kernel
set_option maxRecDepth 100000 in
theorem x_ck4_31 : x_ck4 x_i31 = true := by decide +kernel
set_option maxRecDepth 100000 in
theorem x_ck4_32 : x_ck4 x_i32 = true := by decide +kernel
set_option maxRecDepth 100000 in
theorem x_ck4_33 : x_ck4 x_i33 = true := by decide +kernel
set_option maxRecDepth 100000 in
theorem x_ck4_34 : x_ck4 x_i34 = true := by decide +kernel
set_option maxRecDepth 100000 in
theorem x_ck4_35 : x_ck4 x_i35 = true := by decide +kernel
set_option maxRecDepth 100000 in
theorem x_ck4_36 : x_ck4 x_i36 = true := by decide +kernel
set_option maxRecDepth 100000 in
theorem x_ck4_37 : x_ck4 x_i37 = true := by decide +kernel
set_option maxRecDepth 100000 in
theorem x_ck4_38 : x_ck4 x_i38 = true := by decide +kernel
set_option maxRecDepth 100000 in
theorem x_ck4_39 : x_ck4 x_i39 = true := by decide +kernel
set_option maxRecDepth 100000 in
theorem x_ck4_40 : x_ck4 x_i40 = true := by decide +kernel
set_option maxRecDepth 100000 in
theorem x_ck4_41 : x_ck4 x_i41 = true := by decide +kernel
set_option maxRecDepth 100000 in
theorem x_ck4_42 : x_ck4 x_i42 = true := by decide +kernel
set_option maxRecDepth 100000 in
theorem x_ck4_43 : x_ck4 x_i43 = true := by decide +kernel
set_option maxRecDepth 100000 in
theorem x_ck4_44 : x_ck4 x_i44 = true := by decide +kernel
set_option maxRecDepth 100000 in
theorem x_ck4_45 : x_ck4 x_i45 = true := by decide +kernel
set_option maxRecDepth 100000 in
theorem x_ck4_46 : x_ck4 x_i46 = true := by decide +kernel
set_option maxRecDepth 100000 in
theorem x_ck4_47 : x_ck4 x_i47 = true := by decide +kernel
set_option maxRecDepth 100000 in
theorem x_ck4_48 : x_ck4 x_i48 = true := by decide +kernel
set_option maxRecDepth 100000 in
theorem x_ck4_49 : x_ck4 x_i49 = true := by decide +kernel
set_option maxRecDepth 100000 in
theorem x_ck4_50 : x_ck4 x_i50 = true := by decide +kernel
set_option maxRecDepth 100000 in
theorem x_ck4_51 : x_ck4 x_i51 = true := by decide +kernel
set_option maxRecDepth 100000 in
theorem x_ck4_52 : x_ck4 x_i52 = true := by decide +kernel
set_option maxRecDepth 100000 in
theorem x_ck4_53 : x_ck4 x_i53 = true := by decide +kernel
set_option maxRecDepth 100000 in
theorem x_ck4_54 : x_ck4 x_i54 = true := by decide +kernel
set_option maxRecDepth 100000 in
theorem x_ck4_55 : x_ck4 x_i55 = true := by decide +kernel
set_option maxRecDepth 100000 in
theorem x_ck4_56 : x_ck4 x_i56 = true := by decide +kernel
set_option maxRecDepth 100000 in
theorem x_ck4_57 : x_ck4 x_i57 = true := by decide +kernel
set_option maxRecDepth 100000 in
theorem x_ck4_58 : x_ck4 x_i58 = true := by decide +kernel
set_option maxRecDepth 100000 in
theorem x_ck4_59 : x_ck4 x_i59 = true := by decide +kernel
set_option maxRecDepth 100000 in
theorem x_ck4_60 : x_ck4 x_i60 = true := by decide +kernel
set_option maxRecDepth 100000 in
theorem x_ck4_61 : x_ck4 x_i61 = true := by decide +kernel
set_option maxRecDepth 100000 in
theorem x_ck4_62 : x_ck4 x_i62 = true := by decide +kernel
set_option maxRecDepth 100000 in
theorem x_ck4_63 : x_ck4 x_i63 = true := by decide +kernel
set_option maxRecDepth 100000 in
theorem x_ck4_64 : x_ck4 x_i64 = true := by decide +kernel
set_option maxRecDepth 100000 in
theorem x_ck4_65 : x_ck4 x_i65 = true := by decide +kernel
set_option maxRecDepth 100000 in
theorem x_ck4_66 : x_ck4 x_i66 = true := by decide +kernel
set_option maxRecDepth 100000 in
theorem x_ck4_67 : x_ck4 x_i67 = true := by decide +kernel
set_option maxRecDepth 100000 in
theorem x_ck4_68 : x_ck4 x_i68 = true := by decide +kernel
set_option maxRecDepth 100000 in
theorem x_ck4_69 : x_ck4 x_i69 = true := by decide +kernel
set_option maxRecDepth 100000 in
theorem x_ck4_70 : x_ck4 x_i70 = true := by decide +kernel
set_option maxRecDepth 100000 in
theorem x_ck4_71 : x_ck4 x_i71 = true := by decide +kernel
set_option maxRecDepth 100000 in
theorem x_ck4_72 : x_ck4 x_i72 = true := by decide +kernel
set_option maxRecDepth 100000 in
theorem x_ck4_73 : x_ck4 x_i73 = true := by decide +kernel
set_option maxRecDepth 100000 in
theorem x_ck4_74 : x_ck4 x_i74 = true := by decide +kernel
set_option maxRecDepth 100000 in
theorem x_ck4_75 : x_ck4 x_i75 = true := by decide +kernel
set_option maxRecDepth 100000 in
theorem x_ck4_76 : x_ck4 x_i76 = true := by decide +kernel
set_option maxRecDepth 100000 in
theorem x_ck4_77 : x_ck4 x_i77 = true := by decide +kernel
set_option maxRecDepth 100000 in
theorem x_ck4_78 : x_ck4 x_i78 = true := by decide +kernel
set_option maxRecDepth 100000 in
theorem x_ck4_79 : x_ck4 x_i79 = true := by decide +kernel
set_option maxRecDepth 100000 in
theorem x_ck4_80 : x_ck4 x_i80 = true := by decide +kernel
set_option maxRecDepth 100000 in
theorem x_ck4_81 : x_ck4 x_i81 = true := by decide +kernel
set_option maxRecDepth 100000 in
theorem x_ck4_82 : x_ck4 x_i82 = true := by decide +kernel
set_option maxRecDepth 100000 in
theorem x_ck4_83 : x_ck4 x_i83 = true := by decide +kernel
set_option maxRecDepth 100000 in
theorem x_ck4_84 : x_ck4 x_i84 = true := by decide +kernel
set_option maxRecDepth 100000 in
theorem x_ck4_85 : x_ck4 x_i85 = true := by decide +kernel
set_option maxRecDepth 100000 in
theorem x_ck4_86 : x_ck4 x_i86 = true := by decide +kernel
set_option maxRecDepth 100000 in
theorem x_ck4_87 : x_ck4 x_i87 = true := by decide +kernel
set_option maxRecDepth 100000 in
theorem x_ck4_88 : x_ck4 x_i88 = true := by decide +kernel
set_option maxRecDepth 100000 in
theorem x_ck4_89 : x_ck4 x_i89 = true := by decide +kernel
set_option maxRecDepth 100000 in
theorem x_ck4_90 : x_ck4 x_i90 = true := by decide +kernel
set_option maxRecDepth 100000 in
theorem x_ck4_91 : x_ck4 x_i91 = true := by decide +kernel
set_option maxRecDepth 100000 in
theorem x_ck4_92 : x_ck4 x_i92 = true := by decide +kernel
set_option maxRecDepth 100000 in
theorem x_ck4_93 : x_ck4 x_i93 = true := by decide +kernel
set_option maxRecDepth 100000 in
theorem x_ck4_94 : x_ck4 x_i94 = true := by decide +kernel
set_option maxRecDepth 100000 in
theorem x_ck4_95 : x_ck4 x_i95 = true := by decide +kernel
set_option maxRecDepth 100000 in
theorem x_ck4_96 : x_ck4 x_i96 = true := by decide +kernel
set_option maxRecDepth 100000 in
theorem x_ck4_97 : x_ck4 x_i97 = true := by decide +kernel
set_option maxRecDepth 100000 in
theorem x_ck4_98 : x_ck4 x_i98 = true := by decide +kernel
set_option maxRecDepth 100000 in
theorem x_ck4_99 : x_ck4 x_i99 = true := by decide +kernel
set_option maxRecDepth 100000 in
theorem x_ck4_100 : x_ck4 x_i100 = true := by decide +kernel
set_option maxRecDepth 100000 in
theorem x_ck4_101 : x_ck4 x_i101 = true := by decide +kernel
set_option maxRecDepth 100000 in
theorem x_ck4_102 : x_ck4 x_i102 = true := by decide +kernel
set_option maxRecDepth 100000 in
theorem x_ck4_103 : x_ck4 x_i103 = true := by decide +kernel
set_option maxRecDepth 100000 in
theorem x_ck4_104 : x_ck4 x_i104 = true := by decide +kernel
set_option maxRecDepth 100000 in
theorem x_ck4_105 : x_ck4 x_i105 = true := by decide +kernel
set_option maxRecDepth 100000 in
theorem x_ck4_106 : x_ck4 x_i106 = true := by decide +kernel
set_option maxRecDepth 100000 in
theorem x_ck4_107 : x_ck4 x_i107 = true := by decide +kernel
set_option maxRecDepth 100000 in
theorem x_ck4_108 : x_ck4 x_i108 = true := by decide +kernel
set_option maxRecDepth 100000 in
theorem x_ck4_109 : x_ck4 x_i109 = true := by decide +kernel
set_option maxRecDepth 100000 in
theorem x_ck4_110 : x_ck4 x_i110 = true := by decide +kernel
set_option maxRecDepth 100000 in
theorem x_ck4_111 : x_ck4 x_i111 = true := by decide +kernel
set_option maxRecDepth 100000 in
theorem x_ck4_112 : x_ck4 x_i112 = true := by decide +kernel
set_option maxRecDepth 100000 in
theorem x_ck4_113 : x_ck4 x_i113 = true := by decide +kernel
set_option maxRecDepth 100000 in
theorem x_ck4_114 : x_ck4 x_i114 = true := by decide +kernel
set_option maxRecDepth 100000 in
theorem x_ck4_115 : x_ck4 x_i115 = true := by decide +kernel
set_option maxRecDepth 100000 in
theorem x_ck4_116 : x_ck4 x_i116 = true := by decide +kernel
set_option maxRecDepth 100000 in
theorem x_ck4_117 : x_ck4 x_i117 = true := by decide +kernel
set_option maxRecDepth 100000 in
theorem x_ck4_118 : x_ck4 x_i118 = true := by decide +kernel
set_option maxRecDepth 100000 in
theorem x_ck4_119 : x_ck4 x_i119 = true := by decide +kernel
set_option maxRecDepth 100000 in
theorem x_ck4_120 : x_ck4 x_i120 = true := by decide +kernel
set_option maxRecDepth 100000 in
theorem x_ck4_121 : x_ck4 x_i121 = true := by decide +kernel
set_option maxRecDepth 100000 in
theorem x_ck4_122 : x_ck4 x_i122 = true := by decide +kernel
set_option maxRecDepth 100000 in
theorem x_ck4_123 : x_ck4 x_i123 = true := by decide +kernel
set_option maxRecDepth 100000 in
theorem x_ck4_124 : x_ck4 x_i124 = true := by decide +kernel
set_option maxRecDepth 100000 in
theorem x_ck4_125 : x_ck4 x_i125 = true := by decide +kernel
set_option maxRecDepth 100000 in
theorem x_ck4_126 : x_ck4 x_i126 = true := by decide +kernel
set_option maxRecDepth 100000 in
theorem x_ck4_127 : x_ck4 x_i127 = true := by decide +kernel
set_option maxRecDepth 100000 in
theorem x_ck4_128 : x_ck4 x_i128 = true := by decide +kernel
set_option maxRecDepth 100000 in
theorem x_ck4_129 : x_ck4 x_i129 = true := by decide +kernel
set_option maxRecDepth 100000 in
theorem x_ck4_130 : x_ck4 x_i130 = true := by decide +kernel
set_option maxRecDepth 100000 in
theorem x_ck4_131 : x_ck4 x_i131 = true := by decide +kernel
set_option maxRecDepth 100000 in
theorem x_ck4_132 : x_ck4 x_i132 = true := by decide +kernel
set_option maxRecDepth 100000 in
theorem x_ck4_133 : x_ck4 x_i133 = true := by decide +kernel
set_option maxRecDepth 100000 in
theorem x_ck4_134 : x_ck4 x_i134 = true := by decide +kernel
set_option maxRecDepth 100000 in
theorem x_ck4_135 : x_ck4 x_i135 = true := by decide +kernel
set_option maxRecDepth 100000 in
theorem x_ck4_136 : x_ck4 x_i136 = true := by decide +kernel
set_option maxRecDepth 100000 in
theorem x_ck4_137 : x_ck4 x_i137 = true := by decide +kernel
set_option maxRecDepth 100000 in
theorem x_ck4_138 : x_ck4 x_i138 = true := by decide +kernel
set_option maxRecDepth 100000 in
theorem x_ck4_139 : x_ck4 x_i139 = true := by decide +kernel
set_option maxRecDepth 100000 in
theorem x_ck4_140 : x_ck4 x_i140 = true := by decide +kernel
set_option maxRecDepth 100000 in
theorem x_ck4_141 : x_ck4 x_i141 = true := by decide +kernel
set_option maxRecDepth 100000 in
theorem x_ck4_142 : x_ck4 x_i142 = true := by decide +kernel
set_option maxRecDepth 100000 in
theorem x_ck4_143 : x_ck4 x_i143 = true := by decide +kernel
set_option maxRecDepth 100000 in
theorem x_ck4_144 : x_ck4 x_i144 = true := by decide +kernel
set_option maxRecDepth 100000 in
theorem x_ck4_145 : x_ck4 x_i145 = true := by decide +kernel
set_option maxRecDepth 100000 in
theorem x_ck4_146 : x_ck4 x_i146 = true := by decide +kernel
set_option maxRecDepth 100000 in
theorem x_ck4_147 : x_ck4 x_i147 = true := by decide +kernel
set_option maxRecDepth 100000 in
theorem x_ck4_148 : x_ck4 x_i148 = true := by decide +kernel
set_option maxRecDepth 100000 in
theorem x_ck4_149 : x_ck4 x_i149 = true := by decide +kernel
set_option maxRecDepth 100000 in
theorem x_ck4_150 : x_ck4 x_i150 = true := by decide +kernel
set_option maxRecDepth 100000 in
theorem x_ck4_151 : x_ck4 x_i151 = true := by decide +kernel
set_option maxRecDepth 100000 in
theorem x_ck4_152 : x_ck4 x_i152 = true := by decide +kernel
set_option maxRecDepth 100000 in
theorem x_ck4_153 : x_ck4 x_i153 = true := by decide +kernel
set_option maxRecDepth 100000 in
theorem x_ck4_154 : x_ck4 x_i154 = true := by decide +kernel
set_option maxRecDepth 100000 in
theorem x_ck4_155 : x_ck4 x_i155 = true := by decide +kernel
set_option maxRecDepth 100000 in
theorem x_ck4_156 : x_ck4 x_i156 = true := by decide +kernel
set_option maxRecDepth 100000 in
theorem x_ck4_157 : x_ck4 x_i157 = true := by decide +kernel
set_option maxRecDepth 100000 in
theorem x_ck4_158 : x_ck4 x_i158 = true := by decide +kernel
set_option maxRecDepth 100000 in
theorem x_ck4_159 : x_ck4 x_i159 = true := by decide +kernel
set_option maxRecDepth 100000 in
theorem x_ck4_160 : x_ck4 x_i160 = true := by decide +kernel
set_option maxRecDepth 100000 in
theorem x_ck4_161 : x_ck4 x_i161 = true := by decide +kernel
set_option maxRecDepth 100000 in
theorem x_ck4_162 : x_ck4 x_i162 = true := by decide +kernel
set_option maxRecDepth 100000 in
theorem x_ck4_163 : x_ck4 x_i163 = true := by decide +kernel
set_option maxRecDepth 100000 in
theorem x_ck4_164 : x_ck4 x_i164 = true := by decide +kernel
set_option maxRecDepth 100000 in
theorem x_ck4_165 : x_ck4 x_i165 = true := by decide +kernel
set_option maxRecDepth 100000 in
theorem x_ck4_166 : x_ck4 x_i166 = true := by decide +kernel
set_option maxRecDepth 100000 in
theorem x_ck4_167 : x_ck4 x_i167 = true := by decide +kernel
set_option maxRecDepth 100000 in
theorem x_ck4_168 : x_ck4 x_i168 = true := by decide +kernel
set_option maxRecDepth 100000 in
theorem x_ck4_169 : x_ck4 x_i169 = true := by decide +kernel
set_option maxRecDepth 100000 in
theorem x_ck4_170 : x_ck4 x_i170 = true := by decide +kernel
set_option maxRecDepth 100000 in
theorem x_ck4_171 : x_ck4 x_i171 = true := by decide +kernel
set_option maxRecDepth 100000 in
theorem x_ck4_all : ∀ i ∈ x_tab, x_ck4 i = true := List.forall_mem_cons.mpr ⟨x_ck4_0, List.forall_mem_cons.mpr ⟨x_ck4_1, List.forall_mem_cons.mpr ⟨x_ck4_2, List.forall_mem_cons.mpr ⟨x_ck4_3, List.forall_mem_cons.mpr ⟨x_ck4_4, List.forall_mem_cons.mpr ⟨x_ck4_5, List.forall_mem_cons.mpr ⟨x_ck4_6, List.forall_mem_cons.mpr ⟨x_ck4_7, List.forall_mem_cons.mpr ⟨x_ck4_8, List.forall_mem_cons.mpr ⟨x_ck4_9, List.forall_mem_cons.mpr ⟨x_ck4_10, List.forall_mem_cons.mpr ⟨x_ck4_11, List.forall_mem_cons.mpr ⟨x_ck4_12, List.forall_mem_cons.mpr ⟨x_ck4_13, List.forall_mem_cons.mpr ⟨x_ck4_14, List.forall_mem_cons.mpr ⟨x_ck4_15, List.forall_mem_cons.mpr ⟨x_ck4_16, List.forall_mem_cons.mpr ⟨x_ck4_17, List.forall_mem_cons.mpr ⟨x_ck4_18, List.forall_mem_cons.mpr ⟨x_ck4_19, List.forall_mem_cons.mpr ⟨x_ck4_20, List.forall_mem_cons.mpr ⟨x_ck4_21, List.forall_mem_cons.mpr ⟨x_ck4_22, List.forall_mem_cons.mpr ⟨x_ck4_23, List.forall_mem_cons.mpr ⟨x_ck4_24, List.forall_mem_cons.mpr ⟨x_ck4_25, List.forall_mem_cons.mpr ⟨x_ck4_26, List.forall_mem_cons.mpr ⟨x_ck4_27, List.forall_mem_cons.mpr ⟨x_ck4_28, List.forall_mem_cons.mpr ⟨x_ck4_29, List.forall_mem_cons.mpr ⟨x_ck4_30, List.forall_mem_cons.mpr ⟨x_ck4_31, List.forall_mem_cons.mpr ⟨x_ck4_32, List.forall_mem_cons.mpr ⟨x_ck4_33, List.forall_mem_cons.mpr ⟨x_ck4_34, List.forall_mem_cons.mpr ⟨x_ck4_35, List.forall_mem_cons.mpr ⟨x_ck4_36, List.forall_mem_cons.mpr ⟨x_ck4_37, List.forall_mem_cons.mpr ⟨x_ck4_38, List.forall_mem_cons.mpr ⟨x_ck4_39, List.forall_mem_cons.mpr ⟨x_ck4_40, List.forall_mem_cons.mpr ⟨x_ck4_41, List.forall_mem_cons.mpr ⟨x_ck4_42, List.forall_mem_cons.mpr ⟨x_ck4_43, List.forall_mem_cons.mpr ⟨x_ck4_44, List.forall_mem_cons.mpr ⟨x_ck4_45, List.forall_mem_cons.mpr ⟨x_ck4_46, List.forall_mem_cons.mpr ⟨x_ck4_47, List.forall_mem_cons.mpr ⟨x_ck4_48, List.forall_mem_cons.mpr ⟨x_ck4_49, List.forall_mem_cons.mpr ⟨x_ck4_50, List.forall_mem_cons.mpr ⟨x_ck4_51, List.forall_mem_cons.mpr ⟨x_ck4_52, List.forall_mem_cons.mpr ⟨x_ck4_53, List.forall_mem_cons.mpr ⟨x_ck4_54, List.forall_mem_cons.mpr ⟨x_ck4_55, List.forall_mem_cons.mpr ⟨x_ck4_56, List.forall_mem_cons.mpr ⟨x_ck4_57, List.forall_mem_cons.mpr ⟨x_ck4_58, List.forall_mem_cons.mpr ⟨x_ck4_59, List.forall_mem_cons.mpr ⟨x_ck4_60, List.forall_mem_cons.mpr ⟨x_ck4_61, List.forall_mem_cons.mpr ⟨x_ck4_62, List.forall_mem_cons.mpr ⟨x_ck4_63, List.forall_mem_cons.mpr ⟨x_ck4_64, List.forall_mem_cons.mpr ⟨x_ck4_65, List.forall_mem_cons.mpr ⟨x_ck4_66, List.forall_mem_cons.mpr ⟨x_ck4_67, List.forall_mem_cons.mpr ⟨x_ck4_68, List.forall_mem_cons.mpr ⟨x_ck4_69, List.forall_mem_cons.mpr ⟨x_ck4_70, List.forall_mem_cons.mpr ⟨x_ck4_71, List.forall_mem_cons.mpr ⟨x_ck4_72, List.forall_mem_cons.mpr ⟨x_ck4_73, List.forall_mem_cons.mpr ⟨x_ck4_74, List.forall_mem_cons.mpr ⟨x_ck4_75, List.forall_mem_cons.mpr ⟨x_ck4_76, List.forall_mem_cons.mpr ⟨x_ck4_77, List.forall_mem_cons.mpr ⟨x_ck4_78, List.forall_mem_cons.mpr ⟨x_ck4_79, List.forall_mem_cons.mpr ⟨x_ck4_80, List.forall_mem_cons.mpr ⟨x_ck4_81, List.forall_mem_cons.mpr ⟨x_ck4_82, List.forall_mem_cons.mpr ⟨x_ck4_83, List.forall_mem_cons.mpr ⟨x_ck4_84, List.forall_mem_cons.mpr ⟨x_ck4_85, List.forall_mem_cons.mpr ⟨x_ck4_86, List.forall_mem_cons.mpr ⟨x_ck4_87, List.forall_mem_cons.mpr ⟨x_ck4_88, List.forall_mem_cons.mpr ⟨x_ck4_89, List.forall_mem_cons.mpr ⟨x_ck4_90, List.forall_mem_cons.mpr ⟨x_ck4_91, List.forall_mem_cons.mpr ⟨x_ck4_92, List.forall_mem_cons.mpr ⟨x_ck4_93, List.forall_mem_cons.mpr ⟨x_ck4_94, List.forall_mem_cons.mpr ⟨x_ck4_95, List.forall_mem_cons.mpr ⟨x_ck4_96, List.forall_mem_cons.mpr ⟨x_ck4_97, List.forall_mem_cons.mpr ⟨x_ck4_98, List.forall_mem_cons.mpr ⟨x_ck4_99, List.forall_mem_cons.mpr ⟨x_ck4_100, List.forall_mem_cons.mpr ⟨x_ck4_101, List.forall_mem_cons.mpr ⟨x_ck4_102, List.forall_mem_cons.mpr ⟨x_ck4_103, List.forall_mem_cons.mpr ⟨x_ck4_104, List.forall_mem_cons.mpr ⟨x_ck4_105, List.forall_mem_cons.mpr ⟨x_ck4_106, List.forall_mem_cons.mpr ⟨x_ck4_107, List.forall_mem_cons.mpr ⟨x_ck4_108, List.forall_mem_cons.mpr ⟨x_ck4_109, List.forall_mem_cons.mpr ⟨x_ck4_110, List.forall_mem_cons.mpr ⟨x_ck4_111, List.forall_mem_cons.mpr ⟨x_ck4_112, List.forall_mem_cons.mpr ⟨x_ck4_113, List.forall_mem_cons.mpr ⟨x_ck4_114, List.forall_mem_cons.mpr ⟨x_ck4_115, List.forall_mem_cons.mpr ⟨x_ck4_116, List.forall_mem_cons.mpr ⟨x_ck4_117, List.forall_mem_cons.mpr ⟨x_ck4_118, List.forall_mem_cons.mpr ⟨x_ck4_119, List.forall_mem_cons.mpr ⟨x_ck4_120, List.forall_mem_cons.mpr ⟨x_ck4_121, List.forall_mem_cons.mpr ⟨x_ck4_122, List.forall_mem_cons.mpr ⟨x_ck4_123, List.forall_mem_cons.mpr ⟨x_ck4_124, List.forall_mem_cons.mpr ⟨x_ck4_125, List.forall_mem_cons.mpr ⟨x_ck4_126, List.forall_mem_cons.mpr ⟨x_ck4_127, List.forall_mem_cons.mpr ⟨x_ck4_128, List.forall_mem_cons.mpr ⟨x_ck4_129, List.forall_mem_cons.mpr ⟨x_ck4_130, List.forall_mem_cons.mpr ⟨x_ck4_131, List.forall_mem_cons.mpr ⟨x_ck4_132, List.forall_mem_cons.mpr ⟨x_ck4_133, List.forall_mem_cons.mpr ⟨x_ck4_134, List.forall_mem_cons.mpr ⟨x_ck4_135, List.forall_mem_cons.mpr ⟨x_ck4_136, List.forall_mem_cons.mpr ⟨x_ck4_137, List.forall_mem_cons.mpr ⟨x_ck4_138, List.forall_mem_cons.mpr ⟨x_ck4_139, List.forall_mem_cons.mpr ⟨x_ck4_140, List.forall_mem_cons.mpr ⟨x_ck4_141, List.forall_mem_cons.mpr ⟨x_ck4_142, List.forall_mem_cons.mpr ⟨x_ck4_143, List.forall_mem_cons.mpr ⟨x_ck4_144, List.forall_mem_cons.mpr ⟨x_ck4_145, List.forall_mem_cons.mpr ⟨x_ck4_146, List.forall_mem_cons.mpr ⟨x_ck4_147, List.forall_mem_cons.mpr ⟨x_ck4_148, List.forall_mem_cons.mpr ⟨x_ck4_149, List.forall_mem_cons.mpr ⟨x_ck4_150, List.forall_mem_cons.mpr ⟨x_ck4_151, List.forall_mem_cons.mpr ⟨x_ck4_152, List.forall_mem_cons.mpr ⟨x_ck4_153, List.forall_mem_cons.mpr ⟨x_ck4_154, List.forall_mem_cons.mpr ⟨x_ck4_155, List.forall_mem_cons.mpr ⟨x_ck4_156, List.forall_mem_cons.mpr ⟨x_ck4_157, List.forall_mem_cons.mpr ⟨x_ck4_158, List.forall_mem_cons.mpr ⟨x_ck4_159, List.forall_mem_cons.mpr ⟨x_ck4_160, List.forall_mem_cons.mpr ⟨x_ck4_161, List.forall_mem_cons.mpr ⟨x_ck4_162, List.forall_mem_cons.mpr ⟨x_ck4_163, List.forall_mem_cons.mpr ⟨x_ck4_164, List.forall_mem_cons.mpr ⟨x_ck4_165, List.forall_mem_cons.mpr ⟨x_ck4_166, List.forall_mem_cons.mpr ⟨x_ck4_167, List.forall_mem_cons.mpr ⟨x_ck4_168, List.forall_mem_cons.mpr ⟨x_ck4_169, List.forall_mem_cons.mpr ⟨x_ck4_170, List.forall_mem_cons.mpr ⟨x_ck4_171, fun _ h => absurd h List.not_mem_nil⟩⟩⟩⟩⟩⟩⟩⟩⟩⟩⟩⟩⟩⟩⟩⟩⟩⟩⟩⟩⟩⟩⟩⟩⟩⟩⟩⟩⟩⟩⟩⟩⟩⟩⟩⟩⟩⟩⟩⟩⟩⟩⟩⟩⟩⟩⟩⟩⟩⟩⟩⟩⟩⟩⟩⟩⟩⟩⟩⟩⟩⟩⟩⟩⟩⟩⟩⟩⟩⟩⟩⟩⟩⟩⟩⟩⟩⟩⟩⟩⟩⟩⟩⟩⟩⟩⟩⟩⟩⟩⟩⟩⟩⟩⟩⟩⟩⟩⟩⟩⟩⟩⟩⟩⟩⟩⟩⟩⟩⟩⟩⟩⟩⟩⟩⟩⟩⟩⟩⟩⟩⟩⟩⟩⟩⟩⟩⟩⟩⟩⟩⟩⟩⟩⟩⟩⟩⟩⟩⟩⟩⟩⟩⟩⟩⟩⟩⟩⟩⟩⟩⟩⟩⟩⟩⟩⟩⟩⟩⟩⟩⟩⟩⟩⟩⟩⟩⟩⟩⟩⟩⟩
set_option maxRecDepth 100000 in
theorem x_ck3_all : ∀ i ∈ x_tab, x_ck3 i = true := List.all_eq_true.mp (by decide +kernel)

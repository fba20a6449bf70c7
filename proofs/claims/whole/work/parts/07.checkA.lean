/-! every method's rows checked, one by one -/
set_option maxRecDepth 100000 in
theorem x_ck1_0 : x_ck1 x_i0 = true := by decide +kernel
set_option maxRecDepth 100000 in
theorem x_ck1_1 : x_ck1 x_i1 = true := by decide +kernel
set_option maxRecDepth 100000 in
theorem x_ck1_2 : x_ck1 x_i2 = true := by decide +kernel
set_option maxRecDepth 100000 in
theorem x_ck1_3 : x_ck1 x_i3 = true := by decide +kernel
set_option maxRecDepth 100000 in
theorem x_ck1_4 : x_ck1 x_i4 = true := by decide +kernel
set_option maxRecDepth 100000 in
theorem x_ck1_5 : x_ck1 x_i5 = true := by decide +kernel
set_option maxRecDepth 100000 in
theorem x_ck1_6 : x_ck1 x_i6 = true := by decide +kernel
set_option maxRecDepth 100000 in
theorem x_ck1_7 : x_ck1 x_i7 = true := by decide +kernel
set_option maxRecDepth 100000 in
theorem x_ck1_8 : x_ck1 x_i8 = true := by decide +kernel
set_option maxRecDepth 100000 in
theorem x_ck1_9 : x_ck1 x_i9 = true := by decide +kernel
set_option maxRecDepth 100000 in
theorem x_ck1_10 : x_ck1 x_i10 = true := by decide +kernel
set_option maxRecDepth 100000 in
theorem x_ck1_11 : x_ck1 x_i11 = true := by decide +kernel
set_option maxRecDepth 100000 in
theorem x_ck1_12 : x_ck1 x_i12 = true := by decide +kernel
set_option maxRecDepth 100000 in
theorem x_ck1_13 : x_ck1 x_i13 = true := by decide +kernel
set_option maxRecDepth 100000 in
theorem x_ck1_14 : x_ck1 x_i14 = true := by decide +kernel
set_option maxRecDepth 100000 in
theorem x_ck1_15 : x_ck1 x_i15 = true := by decide +kernel
set_option maxRecDepth 100000 in
theorem x_ck1_16 : x_ck1 x_i16 = true := by decide +kernel
set_option maxRecDepth 100000 in
theorem x_ck1_17 : x_ck1 x_i17 = true := by decide +kernel
set_option maxRecDepth 100000 in
theorem x_ck1_18 : x_ck1 x_i18 = true := by decide +kernel
set_option maxRecDepth 100000 in
theorem x_ck1_19 : x_ck1 x_i19 = true := by decide +kernel
set_option maxRecDepth 100000 in
theorem x_ck1_20 : x_ck1 x_i20 = true := by decide +kernel
set_option maxRecDepth 100000 in
theorem x_ck1_21 : x_ck1 x_i21 = true := by decide +kernel
set_option maxRecDepth 100000 in
theorem x_ck1_22 : x_ck1 x_i22 = true := by decide +kernel
set_option maxRecDepth 100000 in
theorem x_ck1_23 : x_ck1 x_i23 = true := by decide +kernel
set_option maxRecDepth 100000 in
theorem x_ck1_24 : x_ck1 x_i24 = true := by decide +kernel
set_option maxRecDepth 100000 in
theorem x_ck1_25 : x_ck1 x_i25 = true := by decide +kernel
set_option maxRecDepth 100000 in
theorem x_ck1_26 : x_ck1 x_i26 = true := by decide +kernel
set_option maxRecDepth 100000 in
theorem x_ck1_27 : x_ck1 x_i27 = true := by decide +kernel
set_option maxRecDepth 100000 in
theorem x_ck1_28 : x_ck1 x_i28 = true := by decide +kernel
set_option maxRecDepth 100000 in
theorem x_ck1_29 : x_ck1 x_i29 = true := by decide +kernel
set_option maxRecDepth 100000 in
theorem x_ck1_30 : x_ck1 x_i30 = true := by decide +kernel
set_option maxRecDepth 100000 in
theorem x_ck1_31 : x_ck1 x_i31 = true := by decide +kernel
set_option maxRecDepth 100000 in
theorem x_ck1_32 : x_ck1 x_i32 = true := by decide +kernel
set_option maxRecDepth 100000 in
theorem x_ck1_33 : x_ck1 x_i33 = true := by decide +kernel
set_option maxRecDepth 100000 in
theorem x_ck1_34 : x_ck1 x_i34 = true := by decide +kernel
set_option maxRecDepth 100000 in
theorem x_ck1_35 : x_ck1 x_i35 = true := by decide +kernel
set_option maxRecDepth 100000 in
theorem x_ck1_36 : x_ck1 x_i36 = true := by decide +kernel
set_option maxRecDepth 100000 in
theorem x_ck1_37 : x_ck1 x_i37 = true := by decide +kernel
set_option maxRecDepth 100000 in
theorem x_ck1_38 : x_ck1 x_i38 = true := by decide +kernel
set_option maxRecDepth 100000 in
theorem x_ck1_39 : x_ck1 x_i39 = true := by decide +kernel
set_option maxRecDepth 100000 in
theorem x_ck1_40 : x_ck1 x_i40 = true := by decide +kernel
set_option maxRecDepth 100000 in
theorem x_ck1_41 : x_ck1 x_i41 = true := by decide +kernel
set_option maxRecDepth 100000 in
theorem x_ck1_42 : x_ck1 x_i42 = true := by decide +kernel
set_option maxRecDepth 100000 in
theorem x_ck1_43 : x_ck1 x_i43 = true := by decide +kernel
set_option maxRecDepth 100000 in
theorem x_ck1_44 : x_ck1 x_i44 = true := by decide +kernel
set_option maxRecDepth 100000 in
theorem x_ck1_45 : x_ck1 x_i45 = true := by decide +kernel
set_option maxRecDepth 100000 in
theorem x_ck1_46 : x_ck1 x_i46 = true := by decide +kernel
set_option maxRecDepth 100000 in
theorem x_ck1_47 : x_ck1 x_i47 = true := by decide +kernel
set_option maxRecDepth 100000 in
theorem x_ck1_48 : x_ck1 x_i48 = true := by decide +kernel
set_option maxRecDepth 100000 in
theorem x_ck1_49 : x_ck1 x_i49 = true := by decide +kernel
set_option maxRecDepth 100000 in
theorem x_ck1_50 : x_ck1 x_i50 = true := by decide +kernel
set_option maxRecDepth 100000 in
theorem x_ck1_51 : x_ck1 x_i51 = true := by decide +kernel
set_option maxRecDepth 100000 in
theorem x_ck1_52 : x_ck1 x_i52 = true := by decide +kernel
set_option maxRecDepth 100000 in
theorem x_ck1_53 : x_ck1 x_i53 = true := by decide +kernel
set_option maxRecDepth 100000 in
theorem x_ck1_54 : x_ck1 x_i54 = true := by decide +kernel
set_option maxRecDepth 100000 in
theorem x_ck1_55 : x_ck1 x_i55 = true := by decide +kernel
set_option maxRecDepth 100000 in
theorem x_ck1_56 : x_ck1 x_i56 = true := by decide +kernel
set_option maxRecDepth 100000 in
theorem x_ck1_57 : x_ck1 x_i57 = true := by decide +kernel
set_option maxRecDepth 100000 in
theorem x_ck1_58 : x_ck1 x_i58 = true := by decide +kernel
set_option maxRecDepth 100000 in
theorem x_ck1_59 : x_ck1 x_i59 = true := by decide +kernel
set_option maxRecDepth 100000 in
theorem x_ck1_60 : x_ck1 x_i60 = true := by decide +kernel
set_option maxRecDepth 100000 in
theorem x_ck1_61 : x_ck1 x_i61 = true := by decide +kernel
set_option maxRecDepth 100000 in
theorem x_ck1_62 : x_ck1 x_i62 = true := by decide +kernel
set_option maxRecDepth 100000 in
theorem x_ck1_63 : x_ck1 x_i63 = true := by decide +kernel
set_option maxRecDepth 100000 in
theorem x_ck1_64 : x_ck1 x_i64 = true := by decide +kernel
set_option maxRecDepth 100000 in
theorem x_ck1_65 : x_ck1 x_i65 = true := by decide +kernel
set_option maxRecDepth 100000 in
theorem x_ck1_66 : x_ck1 x_i66 = true := by decide +kernel
set_option maxRecDepth 100000 in
theorem x_ck1_67 : x_ck1 x_i67 = true := by decide +kernel
set_option maxRecDepth 100000 in
theorem x_ck1_68 : x_ck1 x_i68 = true := by decide +kernel
set_option maxRecDepth 100000 in
theorem x_ck1_69 : x_ck1 x_i69 = true := by decide +kernel
set_option maxRecDepth 100000 in
theorem x_ck1_70 : x_ck1 x_i70 = true := by decide +kernel
set_option maxRecDepth 100000 in
theorem x_ck1_71 : x_ck1 x_i71 = true := by decide +kernel
set_option maxRecDepth 100000 in
theorem x_ck1_72 : x_ck1 x_i72 = true := by decide +kernel
set_option maxRecDepth 100000 in
theorem x_ck1_73 : x_ck1 x_i73 = true := by decide +kernel
set_option maxRecDepth 100000 in
theorem x_ck1_74 : x_ck1 x_i74 = true := by decide +kernel
set_option maxRecDepth 100000 in
theorem x_ck1_75 : x_ck1 x_i75 = true := by decide +kernel
set_option maxRecDepth 100000 in
theorem x_ck1_76 : x_ck1 x_i76 = true := by decide +kernel
set_option maxRecDepth 100000 in
theorem x_ck1_77 : x_ck1 x_i77 = true := by decide +kernel
set_option maxRecDepth 100000 in
theorem x_ck1_78 : x_ck1 x_i78 = true := by decide +kernel
set_option maxRecDepth 100000 in
theorem x_ck1_79 : x_ck1 x_i79 = true := by decide +kernel
set_option maxRecDepth 100000 in
theorem x_ck1_80 : x_ck1 x_i80 = true := by decide +kernel
set_option maxRecDepth 100000 in
theorem x_ck1_81 : x_ck1 x_i81 = true := by decide +kernel
set_option maxRecDepth 100000 in
theorem x_ck1_82 : x_ck1 x_i82 = true := by decide +kernel
set_option maxRecDepth 100000 in
theorem x_ck1_83 : x_ck1 x_i83 = true := by decide +kernel
set_option maxRecDepth 100000 in
theorem x_ck1_84 : x_ck1 x_i84 = true := by decide +kernel
set_option maxRecDepth 100000 in
theorem x_ck1_85 : x_ck1 x_i85 = true := by decide +kernel
set_option maxRecDepth 100000 in
theorem x_ck1_86 : x_ck1 x_i86 = true := by decide +kernel
set_option maxRecDepth 100000 in
theorem x_ck1_87 : x_ck1 x_i87 = true := by decide +kernel
set_option maxRecDepth 100000 in
theorem x_ck1_88 : x_ck1 x_i88 = true := by decide +kernel
set_option maxRecDepth 100000 in
theorem x_ck1_89 : x_ck1 x_i89 = true := by decide +kernel
set_option maxRecDepth 100000 in
theorem x_ck1_90 : x_ck1 x_i90 = true := by decide +kernel
set_option maxRecDepth 100000 in
theorem x_ck1_91 : x_ck1 x_i91 = true := by decide +kernel
set_option maxRecDepth 100000 in
theorem x_ck1_92 : x_ck1 x_i92 = true := by decide +kernel
set_option maxRecDepth 100000 in
theorem x_ck1_93 : x_ck1 x_i93 = true := by decide +kernel
set_option maxRecDepth 100000 in
theorem x_ck1_94 : x_ck1 x_i94 = true := by decide +kernel
set_option maxRecDepth 100000 in
theorem x_ck1_95 : x_ck1 x_i95 = true := by decide +kernel
set_option maxRecDepth 100000 in
theorem x_ck1_96 : x_ck1 x_i96 = true := by decide +kernel
set_option maxRecDepth 100000 in
theorem x_ck1_97 : x_ck1 x_i97 = true := by decide +kernel
set_option maxRecDepth 100000 in
theorem x_ck1_98 : x_ck1 x_i98 = true := by decide +kernel
set_option maxRecDepth 100000 in
theorem x_ck1_99 : x_ck1 x_i99 = true := by decide +kernel
set_option maxRecDepth 100000 in
theorem x_ck1_100 : x_ck1 x_i100 = true := by decide +kernel
set_option maxRecDepth 100000 in
theorem x_ck1_101 : x_ck1 x_i101 = true := by decide +kernel
set_option maxRecDepth 100000 in
theorem x_ck1_102 : x_ck1 x_i102 = true := by decide +kernel
set_option maxRecDepth 100000 in
theorem x_ck1_103 : x_ck1 x_i103 = true := by decide +kernel
set_option maxRecDepth 100000 in
theorem x_ck1_104 : x_ck1 x_i104 = true := by decide +kernel
set_option maxRecDepth 100000 in
theorem x_ck1_105 : x_ck1 x_i105 = true := by decide +kernel
set_option maxRecDepth 100000 in
theorem x_ck1_106 : x_ck1 x_i106 = true := by decide +kernel
set_option maxRecDepth 100000 in
theorem x_ck1_107 : x_ck1 x_i107 = true := by decide +kernel
set_option maxRecDepth 100000 in
theorem x_ck1_108 : x_ck1 x_i108 = true := by decide +kernel
set_option maxRecDepth 100000 in
theorem x_ck1_109 : x_ck1 x_i109 = true := by decide +kernel
set_option maxRecDepth 100000 in
theorem x_ck1_110 : x_ck1 x_i110 = true := by decide +kernel
set_option maxRecDepth 100000 in
theorem x_ck1_111 : x_ck1 x_i111 = true := by decide +kernel
set_option maxRecDepth 100000 in
theorem x_ck1_112 : x_ck1 x_i112 = true := by decide +kernel
set_option maxRecDepth 100000 in
theorem x_ck1_113 : x_ck1 x_i113 = true := by decide +kernel
set_option maxRecDepth 100000 in
theorem x_ck1_114 : x_ck1 x_i114 = true := by decide +kernel
set_option maxRecDepth 100000 in
theorem x_ck1_115 : x_ck1 x_i115 = true := by decide +kernel
set_option maxRecDepth 100000 in
theorem x_ck1_116 : x_ck1 x_i116 = true := by decide +kernel
set_option maxRecDepth 100000 in
theorem x_ck1_117 : x_ck1 x_i117 = true := by decide +kernel
set_option maxRecDepth 100000 in
theorem x_ck1_118 : x_ck1 x_i118 = true := by decide +kernel
set_option maxRecDepth 100000 in
theorem x_ck1_119 : x_ck1 x_i119 = true := by decide +kernel
set_option maxRecDepth 100000 in
theorem x_ck1_120 : x_ck1 x_i120 = true := by decide +kernel
set_option maxRecDepth 100000 in
theorem x_ck1_121 : x_ck1 x_i121 = true := by decide +kernel
set_option maxRecDepth 100000 in
theorem x_ck1_122 : x_ck1 x_i122 = true := by decide +kernel
set_option maxRecDepth 100000 in
theorem x_ck1_123 : x_ck1 x_i123 = true := by decide +kernel
set_option maxRecDepth 100000 in
theorem x_ck1_124 : x_ck1 x_i124 = true := by decide +kernel
set_option maxRecDepth 100000 in
theorem x_ck1_125 : x_ck1 x_i125 = true := by decide +kernel
set_option maxRecDepth 100000 in
theorem x_ck1_126 : x_ck1 x_i126 = true := by decide +kernel
set_option maxRecDepth 100000 in
theorem x_ck1_127 : x_ck1 x_i127 = true := by decide +kernel
set_option maxRecDepth 100000 in
theorem x_ck1_128 : x_ck1 x_i128 = true := by decide +kernel
set_option maxRecDepth 100000 in
theorem x_ck1_129 : x_ck1 x_i129 = true := by decide +kernel
set_option maxRecDepth 100000 in
theorem x_ck1_130 : x_ck1 x_i130 = true := by decide +kernel
set_option maxRecDepth 100000 in
theorem x_ck1_131 : x_ck1 x_i131 = true := by decide +kernel
set_option maxRecDepth 100000 in
theorem x_ck1_132 : x_ck1 x_i132 = true := by decide +kernel
set_option maxRecDepth 100000 in
theorem x_ck1_133 : x_ck1 x_i133 = true := by decide +kernel
set_option maxRecDepth 100000 in
theorem x_ck1_134 : x_ck1 x_i134 = true := by decide +kernel
set_option maxRecDepth 100000 in
theorem x_ck1_135 : x_ck1 x_i135 = true := by decide +kernel
set_option maxRecDepth 100000 in
theorem x_ck1_136 : x_ck1 x_i136 = true := by decide +kernel
set_option maxRecDepth 100000 in
theorem x_ck1_137 : x_ck1 x_i137 = true := by decide +kernel
set_option maxRecDepth 100000 in
theorem x_ck1_138 : x_ck1 x_i138 = true := by decide +kernel
set_option maxRecDepth 100000 in
theorem x_ck1_139 : x_ck1 x_i139 = true := by decide +kernel
set_option maxRecDepth 100000 in
theorem x_ck1_140 : x_ck1 x_i140 = true := by decide +kernel
set_option maxRecDepth 100000 in
theorem x_ck1_141 : x_ck1 x_i141 = true := by decide +kernel
set_option maxRecDepth 100000 in
theorem x_ck1_142 : x_ck1 x_i142 = true := by decide +kernel
set_option maxRecDepth 100000 in
theorem x_ck1_143 : x_ck1 x_i143 = true := by decide +kernel
set_option maxRecDepth 100000 in
theorem x_ck1_144 : x_ck1 x_i144 = true := by decide +kernel
set_option maxRecDepth 100000 in
theorem x_ck1_145 : x_ck1 x_i145 = true := by decide +kernel
set_option maxRecDepth 100000 in
theorem x_ck1_146 : x_ck1 x_i146 = true := by decide +kernel
set_option maxRecDepth 100000 in
theorem x_ck1_147 : x_ck1 x_i147 = true := by decide +kernel
set_option maxRecDepth 100000 in
theorem x_ck1_148 : x_ck1 x_i148 = true := by decide +kernel
set_option maxRecDepth 100000 in
theorem x_ck1_149 : x_ck1 x_i149 = true := by decide +kernel
set_option maxRecDepth 100000 in
theorem x_ck1_150 : x_ck1 x_i150 = true := by decide +kernel
set_option maxRecDepth 100000 in
theorem x_ck1_151 : x_ck1 x_i151 = true := by decide +kernel
set_option maxRecDepth 100000 in
theorem x_ck1_152 : x_ck1 x_i152 = true := by decide +kernel
set_option maxRecDepth 100000 in
theorem x_ck1_153 : x_ck1 x_i153 = true := by decide +kernel
set_option maxRecDepth 100000 in
theorem x_ck1_154 : x_ck1 x_i154 = true := by decide +kernel
set_option maxRecDepth 100000 in
theorem x_ck1_155 : x_ck1 x_i155 = true := by decide +kernel
set_option maxRecDepth 100000 in
theorem x_ck1_156 : x_ck1 x_i156 = true := by decide +kernel
set_option maxRecDepth 100000 in
theorem x_ck1_157 : x_ck1 x_i157 = true := by decide +kernel
set_option maxRecDepth 100000 in
theorem x_ck1_158 : x_ck1 x_i158 = true := by decide +kernel
set_option maxRecDepth 100000 in
theorem x_ck1_159 : x_ck1 x_i159 = true := by decide +kernel
set_option maxRecDepth 100000 in
theorem x_ck1_160 : x_ck1 x_i160 = true := by decide +kernel
set_option maxRecDepth 100000 in
theorem x_ck1_161 : x_ck1 x_i161 = true := by decide +kernel
set_option maxRecDepth 100000 in
theorem x_ck1_162 : x_ck1 x_i162 = true := by decide +kernel
set_option maxRecDepth 100000 in
theorem x_ck1_163 : x_ck1 x_i163 = true := by decide +kernel
set_option maxRecDepth 100000 in
theorem x_ck1_164 : x_ck1 x_i164 = true := by decide +kernel
set_option maxRecDepth 100000 in
theorem x_ck1_165 : x_ck1 x_i165 = true := by decide +kernel
set_option maxRecDepth 100000 in
theorem x_ck1_166 : x_ck1 x_i166 = true := by decide +kernel
set_option maxRecDepth 100000 in
theorem x_ck1_167 : x_ck1 x_i167 = true := by decide +kernel
set_option maxRecDepth 100000 in
theorem x_ck1_168 : x_ck1 x_i168 = true := by decide +kernel
set_option maxRecDepth 100000 in
theorem x_ck1_169 : x_ck1 x_i169 = true := by decide +kernel
set_option maxRecDepth 100000 in
theorem x_ck1_170 : x_ck1 x_i170 = true := by decide +kernel
set_option maxRecDepth 100000 in
theorem x_ck1_171 : x_ck1 x_i171 = true := by decide +kernel
set_option maxRecDepth 100000 in
theorem x_ck1_all : ∀ i ∈ x_tab, x_ck1 i = true := List.forall_mem_cons.mpr ⟨x_ck1_0, List.forall_mem_cons.mpr ⟨x_ck1_1, List.forall_mem_cons.mpr ⟨x_ck1_2, List.forall_mem_cons.mpr ⟨x_ck1_3, List.forall_mem_cons.mpr ⟨x_ck1_4, List.forall_mem_cons.mpr ⟨x_ck1_5, List.forall_mem_cons.mpr ⟨x_ck1_6, List.forall_mem_cons.mpr ⟨x_ck1_7, List.forall_mem_cons.mpr ⟨x_ck1_8, List.forall_mem_cons.mpr ⟨x_ck1_9, List.forall_mem_cons.mpr ⟨x_ck1_10, List.forall_mem_cons.mpr ⟨x_ck1_11, List.forall_mem_cons.mpr ⟨x_ck1_12, List.forall_mem_cons.mpr ⟨x_ck1_13, List.forall_mem_cons.mpr ⟨x_ck1_14, List.forall_mem_cons.mpr ⟨x_ck1_15, List.forall_mem_cons.mpr ⟨x_ck1_16, List.forall_mem_cons.mpr ⟨x_ck1_17, List.forall_mem_cons.mpr ⟨x_ck1_18, List.forall_mem_cons.mpr ⟨x_ck1_19, List.forall_mem_cons.mpr ⟨x_ck1_20, List.forall_mem_cons.mpr ⟨x_ck1_21, List.forall_mem_cons.mpr ⟨x_ck1_22, List.forall_mem_cons.mpr ⟨x_ck1_23, List.forall_mem_cons.mpr ⟨x_ck1_24, List.forall_mem_cons.mpr ⟨x_ck1_25, List.forall_mem_cons.mpr ⟨x_ck1_26, List.forall_mem_cons.mpr ⟨x_ck1_27, List.forall_mem_cons.mpr ⟨x_ck1_28, List.forall_mem_cons.mpr ⟨x_ck1_29, List.forall_mem_cons.mpr ⟨x_ck1_30, List.forall_mem_cons.mpr ⟨x_ck1_31, List.forall_mem_cons.mpr ⟨x_ck1_32, List.forall_mem_cons.mpr ⟨x_ck1_33, List.forall_mem_cons.mpr ⟨x_ck1_34, List.forall_mem_cons.mpr ⟨x_ck1_35, List.forall_mem_cons.mpr ⟨x_ck1_36, List.forall_mem_cons.mpr ⟨x_ck1_37, List.forall_mem_cons.mpr ⟨x_ck1_38, List.forall_mem_cons.mpr ⟨x_ck1_39, List.forall_mem_cons.mpr ⟨x_ck1_40, List.forall_mem_cons.mpr ⟨x_ck1_41, List.forall_mem_cons.mpr ⟨x_ck1_42, List.forall_mem_cons.mpr ⟨x_ck1_43, List.forall_mem_cons.mpr ⟨x_ck1_44, List.forall_mem_cons.mpr ⟨x_ck1_45, List.forall_mem_cons.mpr ⟨x_ck1_46, List.forall_mem_cons.mpr ⟨x_ck1_47, List.forall_mem_cons.mpr ⟨x_ck1_48, List.forall_mem_cons.mpr ⟨x_ck1_49, List.forall_mem_cons.mpr ⟨x_ck1_50, List.forall_mem_cons.mpr ⟨x_ck1_51, List.forall_mem_cons.mpr ⟨x_ck1_52, List.forall_mem_cons.mpr ⟨x_ck1_53, List.forall_mem_cons.mpr ⟨x_ck1_54, List.forall_mem_cons.mpr ⟨x_ck1_55, List.forall_mem_cons.mpr ⟨x_ck1_56, List.forall_mem_cons.mpr ⟨x_ck1_57, List.forall_mem_cons.mpr ⟨x_ck1_58, List.forall_mem_cons.mpr ⟨x_ck1_59, List.forall_mem_cons.mpr ⟨x_ck1_60, List.forall_mem_cons.mpr ⟨x_ck1_61, List.forall_mem_cons.mpr ⟨x_ck1_62, List.forall_mem_cons.mpr ⟨x_ck1_63, List.forall_mem_cons.mpr ⟨x_ck1_64, List.forall_mem_cons.mpr ⟨x_ck1_65, List.forall_mem_cons.mpr ⟨x_ck1_66, List.forall_mem_cons.mpr ⟨x_ck1_67, List.forall_mem_cons.mpr ⟨x_ck1_68, List.forall_mem_cons.mpr ⟨x_ck1_69, List.forall_mem_cons.mpr ⟨x_ck1_70, List.forall_mem_cons.mpr ⟨x_ck1_71, List.forall_mem_cons.mpr ⟨x_ck1_72, List.forall_mem_cons.mpr ⟨x_ck1_73, List.forall_mem_cons.mpr ⟨x_ck1_74, List.forall_mem_cons.mpr ⟨x_ck1_75, List.forall_mem_cons.mpr ⟨x_ck1_76, List.forall_mem_cons.mpr ⟨x_ck1_77, List.forall_mem_cons.mpr ⟨x_ck1_78, List.forall_mem_cons.mpr ⟨x_ck1_79, List.forall_mem_cons.mpr ⟨x_ck1_80, List.forall_mem_cons.mpr ⟨x_ck1_81, List.forall_mem_cons.mpr ⟨x_ck1_82, List.forall_mem_cons.mpr ⟨x_ck1_83, List.forall_mem_cons.mpr ⟨x_ck1_84, List.forall_mem_cons.mpr ⟨x_ck1_85, List.forall_mem_cons.mpr ⟨x_ck1_86, List.forall_mem_cons.mpr ⟨x_ck1_87, List.forall_mem_cons.mpr ⟨x_ck1_88, List.forall_mem_cons.mpr ⟨x_ck1_89, List.forall_mem_cons.mpr ⟨x_ck1_90, List.forall_mem_cons.mpr ⟨x_ck1_91, List.forall_mem_cons.mpr ⟨x_ck1_92, List.forall_mem_cons.mpr ⟨x_ck1_93, List.forall_mem_cons.mpr ⟨x_ck1_94, List.forall_mem_cons.mpr ⟨x_ck1_95, List.forall_mem_cons.mpr ⟨x_ck1_96, List.forall_mem_cons.mpr ⟨x_ck1_97, List.forall_mem_cons.mpr ⟨x_ck1_98, List.forall_mem_cons.mpr ⟨x_ck1_99, List.forall_mem_cons.mpr ⟨x_ck1_100, List.forall_mem_cons.mpr ⟨x_ck1_101, List.forall_mem_cons.mpr ⟨x_ck1_102, List.forall_mem_cons.mpr ⟨x_ck1_103, List.forall_mem_cons.mpr ⟨x_ck1_104, List.forall_mem_cons.mpr ⟨x_ck1_105, List.forall_mem_cons.mpr ⟨x_ck1_106, List.forall_mem_cons.mpr ⟨x_ck1_107, List.forall_mem_cons.mpr ⟨x_ck1_108, List.forall_mem_cons.mpr ⟨x_ck1_109, List.forall_mem_cons.mpr ⟨x_ck1_110, List.forall_mem_cons.mpr ⟨x_ck1_111, List.forall_mem_cons.mpr ⟨x_ck1_112, List.forall_mem_cons.mpr ⟨x_ck1_113, List.forall_mem_cons.mpr ⟨x_ck1_114, List.forall_mem_cons.mpr ⟨x_ck1_115, List.forall_mem_cons.mpr ⟨x_ck1_116, List.forall_mem_cons.mpr ⟨x_ck1_117, List.forall_mem_cons.mpr ⟨x_ck1_118, List.forall_mem_cons.mpr ⟨x_ck1_119, List.forall_mem_cons.mpr ⟨x_ck1_120, List.forall_mem_cons.mpr ⟨x_ck1_121, List.forall_mem_cons.mpr ⟨x_ck1_122, List.forall_mem_cons.mpr ⟨x_ck1_123, List.forall_mem_cons.mpr ⟨x_ck1_124, List.forall_mem_cons.mpr ⟨x_ck1_125, List.forall_mem_cons.mpr ⟨x_ck1_126, List.forall_mem_cons.mpr ⟨x_ck1_127, List.forall_mem_cons.mpr ⟨x_ck1_128, List.forall_mem_cons.mpr ⟨x_ck1_129, List.forall_mem_cons.mpr ⟨x_ck1_130, List.forall_mem_cons.mpr ⟨x_ck1_131, List.forall_mem_cons.mpr ⟨x_ck1_132, List.forall_mem_cons.mpr ⟨x_ck1_133, List.forall_mem_cons.mpr ⟨x_ck1_134, List.forall_mem_cons.mpr ⟨x_ck1_135, List.forall_mem_cons.mpr ⟨x_ck1_136, List.forall_mem_cons.mpr ⟨x_ck1_137, List.forall_mem_cons.mpr ⟨x_ck1_138, List.forall_mem_cons.mpr ⟨x_ck1_139, List.forall_mem_cons.mpr ⟨x_ck1_140, List.forall_mem_cons.mpr ⟨x_ck1_141, List.forall_mem_cons.mpr ⟨x_ck1_142, List.forall_mem_cons.mpr ⟨x_ck1_143, List.forall_mem_cons.mpr ⟨x_ck1_144, List.forall_mem_cons.mpr ⟨x_ck1_145, List.forall_mem_cons.mpr ⟨x_ck1_146, List.forall_mem_cons.mpr ⟨x_ck1_147, List.forall_mem_cons.mpr ⟨x_ck1_148, List.forall_mem_cons.mpr ⟨x_ck1_149, List.forall_mem_cons.mpr ⟨x_ck1_150, List.forall_mem_cons.mpr ⟨x_ck1_151, List.forall_mem_cons.mpr ⟨x_ck1_152, List.forall_mem_cons.mpr ⟨x_ck1_153, List.forall_mem_cons.mpr ⟨x_ck1_154, List.forall_mem_cons.mpr ⟨x_ck1_155, List.forall_mem_cons.mpr ⟨x_ck1_156, List.forall_mem_cons.mpr ⟨x_ck1_157, List.forall_mem_cons.mpr ⟨x_ck1_158, List.forall_mem_cons.mpr ⟨x_ck1_159, List.forall_mem_cons.mpr ⟨x_ck1_160, List.forall_mem_cons.mpr ⟨x_ck1_161, List.forall_mem_cons.mpr ⟨x_ck1_162, List.forall_mem_cons.mpr ⟨x_ck1_163, List.forall_mem_cons.mpr ⟨x_ck1_164, List.forall_mem_cons.mpr ⟨x_ck1_165, List.forall_mem_cons.mpr ⟨x_ck1_166, List.forall_mem_cons.mpr ⟨x_ck1_167, List.forall_mem_cons.mpr ⟨x_ck1_168, List.forall_mem_cons.mpr ⟨x_ck1_169, List.forall_mem_cons.mpr ⟨x_ck1_170, List.forall_mem_cons.mpr ⟨x_ck1_171, fun _ h => absurd h List.not_mem_nil⟩⟩⟩⟩⟩⟩⟩⟩⟩⟩⟩⟩⟩⟩⟩⟩⟩⟩⟩⟩⟩⟩⟩⟩⟩⟩⟩⟩⟩⟩⟩⟩⟩⟩⟩⟩⟩⟩⟩⟩⟩⟩⟩⟩⟩⟩⟩⟩⟩⟩⟩⟩⟩⟩⟩⟩⟩⟩⟩⟩⟩⟩⟩⟩⟩⟩⟩⟩⟩⟩⟩⟩⟩⟩⟩⟩⟩⟩⟩⟩⟩⟩⟩⟩⟩⟩⟩⟩⟩⟩⟩⟩⟩⟩⟩⟩⟩⟩⟩⟩⟩⟩⟩⟩⟩⟩⟩⟩⟩⟩⟩⟩⟩⟩⟩⟩⟩⟩⟩⟩⟩⟩⟩⟩⟩⟩⟩⟩⟩⟩⟩⟩⟩⟩⟩⟩⟩⟩⟩⟩⟩⟩⟩⟩⟩⟩⟩⟩⟩⟩⟩⟩⟩⟩⟩⟩⟩⟩⟩⟩⟩⟩⟩⟩⟩⟩⟩⟩⟩⟩⟩⟩

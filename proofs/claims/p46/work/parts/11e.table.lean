/-! the table of methods, whole -/
def xt_l_0 : List (xm_MI) := [xt_0, xt_1, xt_2, xt_3, xt_4, xt_5, xt_6, xt_7, xt_8, xt_9, xt_10, xt_11, xt_12, xt_13, xt_14, xt_15, xt_16, xt_17, xt_18, xt_19, xt_20, xt_21, xt_22, xt_23, xt_24, xt_25, xt_26, xt_27, xt_28, xt_29]
def xt_l_1 : List (xm_MI) := [xt_30, xt_31, xt_32, xt_33, xt_34, xt_35, xt_36, xt_37, xt_38, xt_39, xt_40, xt_41, xt_42, xt_43, xt_44, xt_45, xt_46, xt_47, xt_48, xt_49, xt_50, xt_51, xt_52, xt_53, xt_54, xt_55, xt_56, xt_57, xt_58, xt_59]
def xt_l_2 : List (xm_MI) := [xt_60, xt_61, xt_62, xt_63, xt_64, xt_65, xt_66, xt_67, xt_68, xt_69, xt_70, xt_71, xt_72, xt_73, xt_74, xt_75, xt_76, xt_77, xt_78, xt_79, xt_80, xt_81, xt_82, xt_83, xt_84, xt_85, xt_86, xt_87, xt_88, xt_89]
def xt_l_3 : List (xm_MI) := [xt_90, xt_91, xt_92, xt_93, xt_94, xt_95, xt_96, xt_97, xt_98, xt_99, xt_100, xt_101, xt_102, xt_103, xt_104, xt_105, xt_106, xt_107, xt_108, xt_109, xt_110, xt_111, xt_112, xt_113, xt_114, xt_115, xt_116, xt_117, xt_118, xt_119]
def xt_l_4 : List (xm_MI) := [xt_120, xt_121, xt_122, xt_123, xt_124, xt_125, xt_126, xt_127, xt_128, xt_129, xt_130, xt_131, xt_132, xt_133, xt_134, xt_135, xt_136, xt_137, xt_138, xt_139, xt_140, xt_141, xt_142, xt_143, xt_144, xt_145, xt_146, xt_147, xt_148, xt_149]
def xt_l_5 : List (xm_MI) := [xt_150, xt_151, xt_152, xt_153, xt_154, xt_155, xt_156, xt_157, xt_158, xt_159, xt_160, xt_161, xt_162, xt_163, xt_164, xt_165, xt_166, xt_167, xt_168, xt_169, xt_170, xt_171, xt_172, xt_173, xt_174, xt_175, xt_176, xt_177, xt_178, xt_179]
def xt_l_6 : List (xm_MI) := [xt_180, xt_181, xt_182, xt_183, xt_184, xt_185, xt_186, xt_187, xt_188, xt_189, xt_190, xt_191, xt_192, xt_193, xt_194, xt_195, xt_196, xt_197, xt_198, xt_199, xt_200, xt_201, xt_202, xt_203, xt_204, xt_205, xt_206, xt_207, xt_208, xt_209]
def xt_l_7 : List (xm_MI) := [xt_210, xt_211, xt_212, xt_213, xt_214, xt_215, xt_216, xt_217]
def xt_l : List (xm_MI) := xt_l_0 ++ (xt_l_1 ++ (xt_l_2 ++ (xt_l_3 ++ (xt_l_4 ++ (xt_l_5 ++ (xt_l_6 ++ (xt_l_7)))))))
def xt_k_0 : List (Nat × Nat) := [(2, 1), (1, 0), (1, 1), (1, 1), (0, 2), (0, 2), (0, 2), (0, 4), (0, 2), (0, 2), (0, 2), (2, 0), (1, 2), (1, 2), (1, 1), (1, 1), (2, 0), (1, 1), (1, 1), (1, 1), (1, 1), (1, 2), (1, 2), (1, 2), (1, 1), (1, 1), (2, 1), (2, 1), (3, 0), (3, 1)]
def xt_k_1 : List (Nat × Nat) := [(3, 1), (3, 1), (3, 1), (3, 1), (3, 1), (3, 0), (2, 0), (1, 0), (1, 3), (1, 1), (1, 1), (1, 1), (1, 1), (1, 1), (1, 2), (1, 2), (1, 2), (1, 1), (3, 0), (1, 1), (1, 2), (1, 1), (2, 1), (1, 0), (1, 1), (1, 1), (1, 3), (1, 2), (1, 5), (1, 2)]
def xt_k_2 : List (Nat × Nat) := [(1, 1), (1, 1), (1, 1), (1, 3), (1, 2), (1, 2), (1, 1), (1, 1), (1, 1), (1, 3), (1, 3), (1, 2), (1, 1), (1, 2), (1, 2), (1, 2), (0, 1), (0, 3), (0, 3), (0, 2), (0, 1), (0, 1), (2, 0), (1, 2), (1, 0), (1, 1), (1, 0), (1, 0), (1, 0), (0, 1)]
def xt_k_3 : List (Nat × Nat) := [(0, 1), (0, 1), (1, 0), (1, 1), (1, 1), (1, 1), (1, 1), (1, 0), (1, 2), (1, 2), (2, 0), (1, 2), (1, 3), (1, 3), (1, 2), (1, 1), (2, 0), (1, 5), (1, 1), (1, 1), (3, 1), (1, 1), (1, 2), (1, 2), (1, 2), (1, 2), (1, 2), (1, 3), (1, 2), (3, 2)]
def xt_k_4 : List (Nat × Nat) := [(1, 2), (0, 1), (1, 2), (0, 1), (1, 1), (1, 2), (1, 3), (1, 0), (0, 1), (1, 0), (1, 0), (1, 1), (1, 0), (1, 0), (1, 3), (1, 2), (1, 1), (1, 2), (1, 2), (1, 1), (1, 2), (1, 1), (1, 1), (1, 1), (1, 1), (1, 1), (1, 1), (1, 0), (1, 0), (1, 0)]
def xt_k_5 : List (Nat × Nat) := [(1, 0), (0, 1), (1, 1), (1, 1), (1, 1), (0, 2), (0, 3), (2, 0), (1, 2), (1, 1), (1, 1), (1, 1), (1, 2), (1, 1), (1, 1), (1, 1), (1, 3), (1, 1), (1, 2), (1, 3), (1, 1), (1, 0), (1, 2), (1, 2), (1, 0), (2, 0), (1, 2), (0, 2), (0, 2), (0, 3)]
def xt_k_6 : List (Nat × Nat) := [(0, 2), (0, 3), (0, 4), (0, 3), (0, 2), (0, 3), (0, 1), (0, 1), (0, 3), (4, 1), (0, 3), (0, 1), (0, 1), (2, 1), (1, 0), (1, 1), (1, 3), (2, 2), (1, 0), (1, 0), (0, 2), (2, 0), (2, 1), (1, 1), (1, 1), (1, 1), (1, 0), (3, 1), (1, 1), (1, 0)]
def xt_k_7 : List (Nat × Nat) := [(0, 2), (0, 1), (0, 2), (0, 2), (0, 3), (0, 3), (0, 3), (0, 3)]
def xt_k : List (Nat × Nat) := xt_k_0 ++ (xt_k_1 ++ (xt_k_2 ++ (xt_k_3 ++ (xt_k_4 ++ (xt_k_5 ++ (xt_k_6 ++ (xt_k_7)))))))
def xt_M (j : Nat) : Option xm_MI := xt_l[j]?
def xt_KD (j : Nat) : Nat × Nat := xt_k.getD j (4, 0)
theorem xt_h_0 : ∀ q ∈ xt_l_0.zip xt_k_0, xm_Qm xt_N q.1 q.2 := List.forall_mem_cons.mpr ⟨xq_0, List.forall_mem_cons.mpr ⟨xq_1, List.forall_mem_cons.mpr ⟨xq_2, List.forall_mem_cons.mpr ⟨xq_3, List.forall_mem_cons.mpr ⟨xq_4, List.forall_mem_cons.mpr ⟨xq_5, List.forall_mem_cons.mpr ⟨xq_6, List.forall_mem_cons.mpr ⟨xq_7, List.forall_mem_cons.mpr ⟨xq_8, List.forall_mem_cons.mpr ⟨xq_9, List.forall_mem_cons.mpr ⟨xq_10, List.forall_mem_cons.mpr ⟨xq_11, List.forall_mem_cons.mpr ⟨xq_12, List.forall_mem_cons.mpr ⟨xq_13, List.forall_mem_cons.mpr ⟨xq_14, List.forall_mem_cons.mpr ⟨xq_15, List.forall_mem_cons.mpr ⟨xq_16, List.forall_mem_cons.mpr ⟨xq_17, List.forall_mem_cons.mpr ⟨xq_18, List.forall_mem_cons.mpr ⟨xq_19, List.forall_mem_cons.mpr ⟨xq_20, List.forall_mem_cons.mpr ⟨xq_21, List.forall_mem_cons.mpr ⟨xq_22, List.forall_mem_cons.mpr ⟨xq_23, List.forall_mem_cons.mpr ⟨xq_24, List.forall_mem_cons.mpr ⟨xq_25, List.forall_mem_cons.mpr ⟨xq_26, List.forall_mem_cons.mpr ⟨xq_27, List.forall_mem_cons.mpr ⟨xq_28, List.forall_mem_cons.mpr ⟨xq_29, fun _ h => absurd h List.not_mem_nil⟩⟩⟩⟩⟩⟩⟩⟩⟩⟩⟩⟩⟩⟩⟩⟩⟩⟩⟩⟩⟩⟩⟩⟩⟩⟩⟩⟩⟩⟩
theorem xt_h_1 : ∀ q ∈ xt_l_1.zip xt_k_1, xm_Qm xt_N q.1 q.2 := List.forall_mem_cons.mpr ⟨xq_30, List.forall_mem_cons.mpr ⟨xq_31, List.forall_mem_cons.mpr ⟨xq_32, List.forall_mem_cons.mpr ⟨xq_33, List.forall_mem_cons.mpr ⟨xq_34, List.forall_mem_cons.mpr ⟨xq_35, List.forall_mem_cons.mpr ⟨xq_36, List.forall_mem_cons.mpr ⟨xq_37, List.forall_mem_cons.mpr ⟨xq_38, List.forall_mem_cons.mpr ⟨xq_39, List.forall_mem_cons.mpr ⟨xq_40, List.forall_mem_cons.mpr ⟨xq_41, List.forall_mem_cons.mpr ⟨xq_42, List.forall_mem_cons.mpr ⟨xq_43, List.forall_mem_cons.mpr ⟨xq_44, List.forall_mem_cons.mpr ⟨xq_45, List.forall_mem_cons.mpr ⟨xq_46, List.forall_mem_cons.mpr ⟨xq_47, List.forall_mem_cons.mpr ⟨xq_48, List.forall_mem_cons.mpr ⟨xq_49, List.forall_mem_cons.mpr ⟨xq_50, List.forall_mem_cons.mpr ⟨xq_51, List.forall_mem_cons.mpr ⟨xq_52, List.forall_mem_cons.mpr ⟨xq_53, List.forall_mem_cons.mpr ⟨xq_54, List.forall_mem_cons.mpr ⟨xq_55, List.forall_mem_cons.mpr ⟨xq_56, List.forall_mem_cons.mpr ⟨xq_57, List.forall_mem_cons.mpr ⟨xq_58, List.forall_mem_cons.mpr ⟨xq_59, fun _ h => absurd h List.not_mem_nil⟩⟩⟩⟩⟩⟩⟩⟩⟩⟩⟩⟩⟩⟩⟩⟩⟩⟩⟩⟩⟩⟩⟩⟩⟩⟩⟩⟩⟩⟩
theorem xt_h_2 : ∀ q ∈ xt_l_2.zip xt_k_2, xm_Qm xt_N q.1 q.2 := List.forall_mem_cons.mpr ⟨xq_60, List.forall_mem_cons.mpr ⟨xq_61, List.forall_mem_cons.mpr ⟨xq_62, List.forall_mem_cons.mpr ⟨xq_63, List.forall_mem_cons.mpr ⟨xq_64, List.forall_mem_cons.mpr ⟨xq_65, List.forall_mem_cons.mpr ⟨xq_66, List.forall_mem_cons.mpr ⟨xq_67, List.forall_mem_cons.mpr ⟨xq_68, List.forall_mem_cons.mpr ⟨xq_69, List.forall_mem_cons.mpr ⟨xq_70, List.forall_mem_cons.mpr ⟨xq_71, List.forall_mem_cons.mpr ⟨xq_72, List.forall_mem_cons.mpr ⟨xq_73, List.forall_mem_cons.mpr ⟨xq_74, List.forall_mem_cons.mpr ⟨xq_75, List.forall_mem_cons.mpr ⟨xq_76, List.forall_mem_cons.mpr ⟨xq_77, List.forall_mem_cons.mpr ⟨xq_78, List.forall_mem_cons.mpr ⟨xq_79, List.forall_mem_cons.mpr ⟨xq_80, List.forall_mem_cons.mpr ⟨xq_81, List.forall_mem_cons.mpr ⟨xq_82, List.forall_mem_cons.mpr ⟨xq_83, List.forall_mem_cons.mpr ⟨xq_84, List.forall_mem_cons.mpr ⟨xq_85, List.forall_mem_cons.mpr ⟨xq_86, List.forall_mem_cons.mpr ⟨xq_87, List.forall_mem_cons.mpr ⟨xq_88, List.forall_mem_cons.mpr ⟨xq_89, fun _ h => absurd h List.not_mem_nil⟩⟩⟩⟩⟩⟩⟩⟩⟩⟩⟩⟩⟩⟩⟩⟩⟩⟩⟩⟩⟩⟩⟩⟩⟩⟩⟩⟩⟩⟩
theorem xt_h_3 : ∀ q ∈ xt_l_3.zip xt_k_3, xm_Qm xt_N q.1 q.2 := List.forall_mem_cons.mpr ⟨xq_90, List.forall_mem_cons.mpr ⟨xq_91, List.forall_mem_cons.mpr ⟨xq_92, List.forall_mem_cons.mpr ⟨xq_93, List.forall_mem_cons.mpr ⟨xq_94, List.forall_mem_cons.mpr ⟨xq_95, List.forall_mem_cons.mpr ⟨xq_96, List.forall_mem_cons.mpr ⟨xq_97, List.forall_mem_cons.mpr ⟨xq_98, List.forall_mem_cons.mpr ⟨xq_99, List.forall_mem_cons.mpr ⟨xq_100, List.forall_mem_cons.mpr ⟨xq_101, List.forall_mem_cons.mpr ⟨xq_102, List.forall_mem_cons.mpr ⟨xq_103, List.forall_mem_cons.mpr ⟨xq_104, List.forall_mem_cons.mpr ⟨xq_105, List.forall_mem_cons.mpr ⟨xq_106, List.forall_mem_cons.mpr ⟨xq_107, List.forall_mem_cons.mpr ⟨xq_108, List.forall_mem_cons.mpr ⟨xq_109, List.forall_mem_cons.mpr ⟨xq_110, List.forall_mem_cons.mpr ⟨xq_111, List.forall_mem_cons.mpr ⟨xq_112, List.forall_mem_cons.mpr ⟨xq_113, List.forall_mem_cons.mpr ⟨xq_114, List.forall_mem_cons.mpr ⟨xq_115, List.forall_mem_cons.mpr ⟨xq_116, List.forall_mem_cons.mpr ⟨xq_117, List.forall_mem_cons.mpr ⟨xq_118, List.forall_mem_cons.mpr ⟨xq_119, fun _ h => absurd h List.not_mem_nil⟩⟩⟩⟩⟩⟩⟩⟩⟩⟩⟩⟩⟩⟩⟩⟩⟩⟩⟩⟩⟩⟩⟩⟩⟩⟩⟩⟩⟩⟩
theorem xt_h_4 : ∀ q ∈ xt_l_4.zip xt_k_4, xm_Qm xt_N q.1 q.2 := List.forall_mem_cons.mpr ⟨xq_120, List.forall_mem_cons.mpr ⟨xq_121, List.forall_mem_cons.mpr ⟨xq_122, List.forall_mem_cons.mpr ⟨xq_123, List.forall_mem_cons.mpr ⟨xq_124, List.forall_mem_cons.mpr ⟨xq_125, List.forall_mem_cons.mpr ⟨xq_126, List.forall_mem_cons.mpr ⟨xq_127, List.forall_mem_cons.mpr ⟨xq_128, List.forall_mem_cons.mpr ⟨xq_129, List.forall_mem_cons.mpr ⟨xq_130, List.forall_mem_cons.mpr ⟨xq_131, List.forall_mem_cons.mpr ⟨xq_132, List.forall_mem_cons.mpr ⟨xq_133, List.forall_mem_cons.mpr ⟨xq_134, List.forall_mem_cons.mpr ⟨xq_135, List.forall_mem_cons.mpr ⟨xq_136, List.forall_mem_cons.mpr ⟨xq_137, List.forall_mem_cons.mpr ⟨xq_138, List.forall_mem_cons.mpr ⟨xq_139, List.forall_mem_cons.mpr ⟨xq_140, List.forall_mem_cons.mpr ⟨xq_141, List.forall_mem_cons.mpr ⟨xq_142, List.forall_mem_cons.mpr ⟨xq_143, List.forall_mem_cons.mpr ⟨xq_144, List.forall_mem_cons.mpr ⟨xq_145, List.forall_mem_cons.mpr ⟨xq_146, List.forall_mem_cons.mpr ⟨xq_147, List.forall_mem_cons.mpr ⟨xq_148, List.forall_mem_cons.mpr ⟨xq_149, fun _ h => absurd h List.not_mem_nil⟩⟩⟩⟩⟩⟩⟩⟩⟩⟩⟩⟩⟩⟩⟩⟩⟩⟩⟩⟩⟩⟩⟩⟩⟩⟩⟩⟩⟩⟩
theorem xt_h_5 : ∀ q ∈ xt_l_5.zip xt_k_5, xm_Qm xt_N q.1 q.2 := List.forall_mem_cons.mpr ⟨xq_150, List.forall_mem_cons.mpr ⟨xq_151, List.forall_mem_cons.mpr ⟨xq_152, List.forall_mem_cons.mpr ⟨xq_153, List.forall_mem_cons.mpr ⟨xq_154, List.forall_mem_cons.mpr ⟨xq_155, List.forall_mem_cons.mpr ⟨xq_156, List.forall_mem_cons.mpr ⟨xq_157, List.forall_mem_cons.mpr ⟨xq_158, List.forall_mem_cons.mpr ⟨xq_159, List.forall_mem_cons.mpr ⟨xq_160, List.forall_mem_cons.mpr ⟨xq_161, List.forall_mem_cons.mpr ⟨xq_162, List.forall_mem_cons.mpr ⟨xq_163, List.forall_mem_cons.mpr ⟨xq_164, List.forall_mem_cons.mpr ⟨xq_165, List.forall_mem_cons.mpr ⟨xq_166, List.forall_mem_cons.mpr ⟨xq_167, List.forall_mem_cons.mpr ⟨xq_168, List.forall_mem_cons.mpr ⟨xq_169, List.forall_mem_cons.mpr ⟨xq_170, List.forall_mem_cons.mpr ⟨xq_171, List.forall_mem_cons.mpr ⟨xq_172, List.forall_mem_cons.mpr ⟨xq_173, List.forall_mem_cons.mpr ⟨xq_174, List.forall_mem_cons.mpr ⟨xq_175, List.forall_mem_cons.mpr ⟨xq_176, List.forall_mem_cons.mpr ⟨xq_177, List.forall_mem_cons.mpr ⟨xq_178, List.forall_mem_cons.mpr ⟨xq_179, fun _ h => absurd h List.not_mem_nil⟩⟩⟩⟩⟩⟩⟩⟩⟩⟩⟩⟩⟩⟩⟩⟩⟩⟩⟩⟩⟩⟩⟩⟩⟩⟩⟩⟩⟩⟩
theorem xt_h_6 : ∀ q ∈ xt_l_6.zip xt_k_6, xm_Qm xt_N q.1 q.2 := List.forall_mem_cons.mpr ⟨xq_180, List.forall_mem_cons.mpr ⟨xq_181, List.forall_mem_cons.mpr ⟨xq_182, List.forall_mem_cons.mpr ⟨xq_183, List.forall_mem_cons.mpr ⟨xq_184, List.forall_mem_cons.mpr ⟨xq_185, List.forall_mem_cons.mpr ⟨xq_186, List.forall_mem_cons.mpr ⟨xq_187, List.forall_mem_cons.mpr ⟨xq_188, List.forall_mem_cons.mpr ⟨xq_189, List.forall_mem_cons.mpr ⟨xq_190, List.forall_mem_cons.mpr ⟨xq_191, List.forall_mem_cons.mpr ⟨xq_192, List.forall_mem_cons.mpr ⟨xq_193, List.forall_mem_cons.mpr ⟨xq_194, List.forall_mem_cons.mpr ⟨xq_195, List.forall_mem_cons.mpr ⟨xq_196, List.forall_mem_cons.mpr ⟨xq_197, List.forall_mem_cons.mpr ⟨xq_198, List.forall_mem_cons.mpr ⟨xq_199, List.forall_mem_cons.mpr ⟨xq_200, List.forall_mem_cons.mpr ⟨xq_201, List.forall_mem_cons.mpr ⟨xq_202, List.forall_mem_cons.mpr ⟨xq_203, List.forall_mem_cons.mpr ⟨xq_204, List.forall_mem_cons.mpr ⟨xq_205, List.forall_mem_cons.mpr ⟨xq_206, List.forall_mem_cons.mpr ⟨xq_207, List.forall_mem_cons.mpr ⟨xq_208, List.forall_mem_cons.mpr ⟨xq_209, fun _ h => absurd h List.not_mem_nil⟩⟩⟩⟩⟩⟩⟩⟩⟩⟩⟩⟩⟩⟩⟩⟩⟩⟩⟩⟩⟩⟩⟩⟩⟩⟩⟩⟩⟩⟩
theorem xt_h_7 : ∀ q ∈ xt_l_7.zip xt_k_7, xm_Qm xt_N q.1 q.2 := List.forall_mem_cons.mpr ⟨xq_210, List.forall_mem_cons.mpr ⟨xq_211, List.forall_mem_cons.mpr ⟨xq_212, List.forall_mem_cons.mpr ⟨xq_213, List.forall_mem_cons.mpr ⟨xq_214, List.forall_mem_cons.mpr ⟨xq_215, List.forall_mem_cons.mpr ⟨xq_216, List.forall_mem_cons.mpr ⟨xq_217, fun _ h => absurd h List.not_mem_nil⟩⟩⟩⟩⟩⟩⟩⟩
theorem xt_z : xt_l.zip xt_k = xt_l_0.zip xt_k_0 ++ (xt_l_1.zip xt_k_1 ++ (xt_l_2.zip xt_k_2 ++ (xt_l_3.zip xt_k_3 ++ (xt_l_4.zip xt_k_4 ++ (xt_l_5.zip xt_k_5 ++ (xt_l_6.zip xt_k_6 ++ (xt_l_7.zip xt_k_7))))))) := by
  show List.zip (xt_l_0 ++ (xt_l_1 ++ (xt_l_2 ++ (xt_l_3 ++ (xt_l_4 ++ (xt_l_5 ++ (xt_l_6 ++ (xt_l_7)))))))) (xt_k_0 ++ (xt_k_1 ++ (xt_k_2 ++ (xt_k_3 ++ (xt_k_4 ++ (xt_k_5 ++ (xt_k_6 ++ (xt_k_7)))))))) = _
  rw [List.zip_append (by rfl), List.zip_append (by rfl), List.zip_append (by rfl), List.zip_append (by rfl), List.zip_append (by rfl), List.zip_append (by rfl), List.zip_append (by rfl)]
theorem xt_all : ∀ q ∈ xt_l.zip xt_k, xm_Qm xt_N q.1 q.2 := by
  rw [xt_z]
  exact List.forall_mem_append.mpr ⟨xt_h_0, List.forall_mem_append.mpr ⟨xt_h_1, List.forall_mem_append.mpr ⟨xt_h_2, List.forall_mem_append.mpr ⟨xt_h_3, List.forall_mem_append.mpr ⟨xt_h_4, List.forall_mem_append.mpr ⟨xt_h_5, List.forall_mem_append.mpr ⟨xt_h_6, xt_h_7⟩⟩⟩⟩⟩⟩⟩
theorem xt_Q (j : Nat) (r : xm_MI) (h : xt_M j = some r) : xm_Qm xt_N r (xt_KD j) := by
  have hj : j < xt_l.length := (List.getElem?_eq_some_iff.mp h).1
  have hl : xt_k.length = xt_l.length := by decide +kernel
  have hk : xt_k[j]? = some (xt_KD j) := by
    unfold xt_KD
    rw [List.getD_eq_getElem?_getD, List.getElem?_eq_getElem (by omega)]
    rfl
  refine xt_all (r, xt_KD j) (List.mem_of_getElem? (i := j) ?_)
  rw [List.getElem?_zip_eq_some]
  exact ⟨h, hk⟩
set_option maxRecDepth 100000 in
theorem xt_n_0 : (xt_l_0.zip xt_k_0).map (fun q => (q.1.1, q.2)) = xt_nl_0 := rfl
set_option maxRecDepth 100000 in
theorem xt_n_1 : (xt_l_1.zip xt_k_1).map (fun q => (q.1.1, q.2)) = xt_nl_1 := rfl
set_option maxRecDepth 100000 in
theorem xt_n_2 : (xt_l_2.zip xt_k_2).map (fun q => (q.1.1, q.2)) = xt_nl_2 := rfl
set_option maxRecDepth 100000 in
theorem xt_n_3 : (xt_l_3.zip xt_k_3).map (fun q => (q.1.1, q.2)) = xt_nl_3 := rfl
set_option maxRecDepth 100000 in
theorem xt_n_4 : (xt_l_4.zip xt_k_4).map (fun q => (q.1.1, q.2)) = xt_nl_4 := rfl
set_option maxRecDepth 100000 in
theorem xt_n_5 : (xt_l_5.zip xt_k_5).map (fun q => (q.1.1, q.2)) = xt_nl_5 := rfl
set_option maxRecDepth 100000 in
theorem xt_n_6 : (xt_l_6.zip xt_k_6).map (fun q => (q.1.1, q.2)) = xt_nl_6 := rfl
set_option maxRecDepth 100000 in
theorem xt_n_7 : (xt_l_7.zip xt_k_7).map (fun q => (q.1.1, q.2)) = xt_nl_7 := rfl
theorem xt_names : xt_nl = (xt_l.zip xt_k).map (fun q => (q.1.1, q.2)) := by
  rw [xt_z]
  simp only [List.map_append, xt_n_0, xt_n_1, xt_n_2, xt_n_3, xt_n_4, xt_n_5, xt_n_6, xt_n_7]
  rfl
theorem xt_Tab : xm_Tab xt_M xt_N xt_KD := by
  refine ⟨fun j => ?_, fun j r h hk => (xt_Q j r h).1 hk, fun j r h => (xt_Q j r h).2.1, fun j q h => (xt_Q j q h).2.2⟩
  have hl : xt_k.length = xt_l.length := by decide +kernel
  unfold xt_N xt_M
  rw [xt_names, List.getElem?_map]
  by_cases hj : j < xt_l.length
  · have hk : xt_k[j]? = some (xt_KD j) := by
      unfold xt_KD
      rw [List.getD_eq_getElem?_getD, List.getElem?_eq_getElem (by omega)]
      rfl
    have h : xt_l[j]? = some xt_l[j] := List.getElem?_eq_getElem hj
    have hz : (xt_l.zip xt_k)[j]? = some (xt_l[j], xt_KD j) := by
      rw [List.getElem?_zip_eq_some]
      exact ⟨h, hk⟩
    rw [hz, h]
    rfl
  · have h1 : xt_l[j]? = none := List.getElem?_eq_none (by omega)
    have h2 : (xt_l.zip xt_k)[j]? = none := List.getElem?_eq_none (by rw [List.length_zip]; omega)
    rw [h1, h2]
    rfl

set_option maxHeartbeats 4000000 in
set_option maxRecDepth 100000 in
theorem law_feed {p : Program} {l : Launch} {e : Env} {s : State} {m : MethodId} {below : List Frame} {meth : Method} {c : Code} {D : va_G} {cA : Nat → ClassId} {sx : Nat → Nat} {b Ln : Nat} {xs : Nat → Int32} {ao : Nat} {a_F a_R a_U a_T a_S a_X a_Y a_C a_D a_M : Nat → Nat} {J : Nat → Int64} {I_R I_U I_T I_S I_X I_Y I_C I_D I_M : NI} {A_R A_T A_S A_X A_Y A_C A_D A_M : NNI} {cells slots : Nat} {Q : State → Prop} {i : Int32} (hC : CX p s m #[Value.ref b] meth c code R_L TB 7 D vwCl (tyl cA) (fun q : Nat => s.heap.size ≤ q) (SPl sx) ret) (hX : va_X b Ln xs s s.heap) (hbl : b < s.heap.size) (hc : cells ≤ room_1.cells ∧ slots ≤ room_1.slots) (r : RL I_U I_T A_T I_X A_X I_Y A_Y I_C A_C A_D I_M A_M) (h1 : vp_in (i + 1) Ln) (h2 : vp_in (i + 2) Ln) (h3 : vp_in (i + 3) Ln) (h4 : vp_in (i + 4) Ln) (h5 : vp_in (i + 5) Ln) (k : KK p l e s m below meth c D cA b ao a_F a_R a_U a_T a_S a_X a_Y a_M (cells) (slots) Q i) : VV p l e room_1 s m #[Value.ref b] below meth c 7 D vwCl (fun q : Nat => s.heap.size ≤ q) cells slots Q (wL cA ao a_F a_R a_U a_T a_S a_X a_Y a_C a_D a_M J I_R A_R I_U I_T A_T I_S A_S I_X A_X I_Y A_Y I_C A_C I_D A_D I_M A_M) 100 [(0, .ref b), (1, .ref (a_F 0)), (2, .ref (a_M 0)), (3, .ref ao), (4, .int i)] [] := by
  refine vv_aload_n hC d_law_100 1 rfl rfl ?_
  refine vv_aload_n hC d_law_101 0 rfl rfl ?_
  refine vv_iload hC d_law_102 4 rfl ?_
  refine vv_iconst hC d_law_104 (v := (1 : Int32)) (by decide) ?_
  refine vv_iadd hC d_law_105 ?_
  refine vv_sld hC hX hbl (Nat.not_le.mpr hbl) h1 d_law_106 ?_
  refine vv_aload_n hC d_law_107 0 rfl rfl ?_
  refine vv_iload hC d_law_108 4 rfl ?_
  refine vv_iconst hC d_law_110 (v := (2 : Int32)) (by decide) ?_
  refine vv_iadd hC d_law_111 ?_
  refine vv_sld hC hX hbl (Nat.not_le.mpr hbl) h2 d_law_112 ?_
  refine vv_aload_n hC d_law_113 0 rfl rfl ?_
  refine vv_iload hC d_law_114 4 rfl ?_
  refine vv_iconst hC d_law_116 (v := (3 : Int32)) (by decide) ?_
  refine vv_iadd hC d_law_117 ?_
  refine vv_sld hC hX hbl (Nat.not_le.mpr hbl) h3 d_law_118 ?_
  refine vv_aload_n hC d_law_119 0 rfl rfl ?_
  refine vv_iload hC d_law_120 4 rfl ?_
  refine vv_iconst hC d_law_122 (v := (4 : Int32)) (by decide) ?_
  refine vv_iadd hC d_law_123 ?_
  refine vv_sld hC hX hbl (Nat.not_le.mpr hbl) h4 d_law_124 ?_
  refine vv_aload_n hC d_law_125 0 rfl rfl ?_
  refine vv_iload hC d_law_126 4 rfl ?_
  refine vv_iconst hC d_law_128 (v := (5 : Int32)) (by decide) ?_
  refine vv_iadd hC d_law_129 ?_
  refine vv_sld hC hX hbl (Nat.not_le.mpr hbl) h5 d_law_130 ?_
  refine vv_pm (pm3 _ _ _) ?_
  refine vv_callVVa hC (wo cA ao J ++ kc_M cA a_M I_M A_M) 45 (c_F_feed l D cA sx a_F a_R a_U a_T a_S a_X a_Y a_C a_D I_R A_R I_U I_T A_T I_S A_S I_X A_X I_Y A_Y I_C A_C I_D A_D (xs (i + 1).toNatClampNeg) (xs (i + 2).toNatClampNeg) (xs (i + 3).toNatClampNeg) (xs (i + 4).toNatClampNeg) (xs (i + 5).toNatClampNeg) _ (p_feed r)) (cw_L_19 hC) d_law_131 [] hc (fun _ => rfl) rfl rfl rfl rfl (Nat.le_of_ble_eq_true rfl) (fun u hw => ?_)
  refine vv_aload_n hC d_law_134 2 rfl rfl ?_
  refine vv_aload_n hC d_law_135 0 rfl rfl ?_
  refine vv_iload hC d_law_136 4 rfl ?_
  refine vv_iconst hC d_law_138 (v := (1 : Int32)) (by decide) ?_
  refine vv_iadd hC d_law_139 ?_
  refine vv_sld hC hX hbl (Nat.not_le.mpr hbl) h1 d_law_140 ?_
  refine vv_aload_n hC d_law_141 0 rfl rfl ?_
  refine vv_iload hC d_law_142 4 rfl ?_
  refine vv_iconst hC d_law_144 (v := (2 : Int32)) (by decide) ?_
  refine vv_iadd hC d_law_145 ?_
  refine vv_sld hC hX hbl (Nat.not_le.mpr hbl) h2 d_law_146 ?_
  refine vv_aload_n hC d_law_147 0 rfl rfl ?_
  refine vv_iload hC d_law_148 4 rfl ?_
  refine vv_iconst hC d_law_150 (v := (3 : Int32)) (by decide) ?_
  refine vv_iadd hC d_law_151 ?_
  refine vv_sld hC hX hbl (Nat.not_le.mpr hbl) h3 d_law_152 ?_
  refine vv_aload_n hC d_law_153 0 rfl rfl ?_
  refine vv_iload hC d_law_154 4 rfl ?_
  refine vv_iconst hC d_law_156 (v := (4 : Int32)) (by decide) ?_
  refine vv_iadd hC d_law_157 ?_
  refine vv_sld hC hX hbl (Nat.not_le.mpr hbl) h4 d_law_158 ?_
  refine vv_aload_n hC d_law_159 0 rfl rfl ?_
  refine vv_iload hC d_law_160 4 rfl ?_
  refine vv_iconst hC d_law_162 (v := (5 : Int32)) (by decide) ?_
  refine vv_iadd hC d_law_163 ?_
  refine vv_sld hC hX hbl (Nat.not_le.mpr hbl) h5 d_law_164 ?_
  refine vv_pm (pm3 _ _ _) ?_
  refine vv_callVVa hC (wo cA ao J ++ wF cA a_F a_R a_U a_T a_S a_X a_Y a_C a_D I_R A_R I_U I_T (u) I_S A_S I_X A_X I_Y A_Y I_C A_C I_D A_D) 24 (c_M_feed l D cA sx a_M I_M A_M (xs (i + 1).toNatClampNeg) (xs (i + 2).toNatClampNeg) (xs (i + 3).toNatClampNeg) (xs (i + 4).toNatClampNeg) (xs (i + 5).toNatClampNeg) _ hw) (cw_L_23 hC) d_law_165 [] hc (fun _ => rfl) rfl rfl rfl rfl (Nat.le_of_ble_eq_true rfl) (fun w hw => ?_)
  refine vv_goto hC 478 d_law_168 (by decide) ?_
  exact k a_C a_D J I_R A_R I_U I_T (u) I_S A_S I_X A_X I_Y A_Y I_C A_C I_D A_D (w.1) (w.2) hw
set_option maxHeartbeats 4000000 in
set_option maxRecDepth 100000 in
theorem law_end {p : Program} {l : Launch} {e : Env} {s : State} {m : MethodId} {below : List Frame} {meth : Method} {c : Code} {D : va_G} {cA : Nat → ClassId} {sx : Nat → Nat} {b Ln : Nat} {xs : Nat → Int32} {ao : Nat} {a_F a_R a_U a_T a_S a_X a_Y a_C a_D a_M : Nat → Nat} {J : Nat → Int64} {I_R I_U I_T I_S I_X I_Y I_C I_D I_M : NI} {A_R A_T A_S A_X A_Y A_C A_D A_M : NNI} {cells slots : Nat} {Q : State → Prop} {i : Int32} (hC : CX p s m #[Value.ref b] meth c code R_L TB 7 D vwCl (tyl cA) (fun q : Nat => s.heap.size ≤ q) (SPl sx) ret) (hX : va_X b Ln xs s s.heap) (hbl : b < s.heap.size) (hc : cells ≤ room_1.cells ∧ slots ≤ room_1.slots) (r : RL I_U I_T A_T I_X A_X I_Y A_Y I_C A_C A_D I_M A_M) (h1 : vp_in (i + 1) Ln) (h2 : vp_in (i + 2) Ln) (h3 : vp_in (i + 3) Ln) (h4 : vp_in (i + 4) Ln) (h5 : vp_in (i + 5) Ln) (k : KK p l e s m below meth c D cA b ao a_F a_R a_U a_T a_S a_X a_Y a_M (cells) (slots) Q i) : VV p l e room_1 s m #[Value.ref b] below meth c 7 D vwCl (fun q : Nat => s.heap.size ≤ q) cells slots Q (wL cA ao a_F a_R a_U a_T a_S a_X a_Y a_C a_D a_M J I_R A_R I_U I_T A_T I_S A_S I_X A_X I_Y A_Y I_C A_C I_D A_D I_M A_M) 171 [(0, .ref b), (1, .ref (a_F 0)), (2, .ref (a_M 0)), (3, .ref ao), (4, .int i)] [] := by
  refine vv_aload_n hC d_law_171 1 rfl rfl ?_
  refine vv_aload_n hC d_law_172 0 rfl rfl ?_
  refine vv_iload hC d_law_173 4 rfl ?_
  refine vv_iconst hC d_law_175 (v := (1 : Int32)) (by decide) ?_
  refine vv_iadd hC d_law_176 ?_
  refine vv_sld hC hX hbl (Nat.not_le.mpr hbl) h1 d_law_177 ?_
  refine vv_pm (pm3 _ _ _) ?_
  refine vv_callVIa hC (wo cA ao J ++ kc_M cA a_M I_M A_M) 45 (c_F_end l D cA sx a_F a_R a_U a_T a_S a_X a_Y a_C a_D I_R A_R I_U I_T A_T I_S A_S I_X A_X I_Y A_Y I_C A_C I_D A_D (xs (i + 1).toNatClampNeg) _ (p_end r)) (cw_L_24 hC) d_law_178 [] hc (fun _ => rfl) rfl rfl rfl rfl (Nat.le_of_ble_eq_true rfl) (fun r_u u hw => ?_)
  refine vv_aload_n hC d_law_181 2 rfl rfl ?_
  refine vv_aload_n hC d_law_182 0 rfl rfl ?_
  refine vv_iload hC d_law_183 4 rfl ?_
  refine vv_iconst hC d_law_185 (v := (1 : Int32)) (by decide) ?_
  refine vv_iadd hC d_law_186 ?_
  refine vv_sld hC hX hbl (Nat.not_le.mpr hbl) h1 d_law_187 ?_
  refine vv_pm (pm3 _ _ _) ?_
  refine vv_callVIa hC (wo cA ao J ++ wF cA a_F a_R a_U a_T a_S a_X a_Y a_C a_D I_R A_R I_U (u.1) (u.2) I_S A_S I_X A_X I_Y A_Y I_C A_C I_D A_D) 24 (c_M_end l D cA sx a_M I_M A_M (xs (i + 1).toNatClampNeg) _ hw) (cw_L_28 hC) d_law_188 [.int r_u] hc (fun _ => rfl) rfl rfl rfl rfl (Nat.le_of_ble_eq_true rfl) (fun r_w w hw => ?_)
  refine vv_icmp_eq hC 478 d_law_191 (by decide) (fun _ => ?_) (fun z => absurd hw.1 z)
  exact k a_C a_D J I_R A_R I_U (u.1) (u.2) I_S A_S I_X A_X I_Y A_Y I_C A_C I_D A_D (w.1) (w.2) hw.2
set_option maxHeartbeats 4000000 in
set_option maxRecDepth 100000 in
theorem law_fault {p : Program} {l : Launch} {e : Env} {s : State} {m : MethodId} {below : List Frame} {meth : Method} {c : Code} {D : va_G} {cA : Nat → ClassId} {sx : Nat → Nat} {b Ln : Nat} {xs : Nat → Int32} {ao : Nat} {a_F a_R a_U a_T a_S a_X a_Y a_C a_D a_M : Nat → Nat} {J : Nat → Int64} {I_R I_U I_T I_S I_X I_Y I_C I_D I_M : NI} {A_R A_T A_S A_X A_Y A_C A_D A_M : NNI} {cells slots : Nat} {Q : State → Prop} {i : Int32} (hC : CX p s m #[Value.ref b] meth c code R_L TB 7 D vwCl (tyl cA) (fun q : Nat => s.heap.size ≤ q) (SPl sx) ret) (hX : va_X b Ln xs s s.heap) (hbl : b < s.heap.size) (hc : cells ≤ room_1.cells ∧ slots ≤ room_1.slots) (r : RL I_U I_T A_T I_X A_X I_Y A_Y I_C A_C A_D I_M A_M) (h1 : vp_in (i + 1) Ln) (h2 : vp_in (i + 2) Ln) (h3 : vp_in (i + 3) Ln) (h4 : vp_in (i + 4) Ln) (h5 : vp_in (i + 5) Ln) (k : KK p l e s m below meth c D cA b ao a_F a_R a_U a_T a_S a_X a_Y a_M (cells) (slots) Q i) : VV p l e room_1 s m #[Value.ref b] below meth c 7 D vwCl (fun q : Nat => s.heap.size ≤ q) cells slots Q (wL cA ao a_F a_R a_U a_T a_S a_X a_Y a_C a_D a_M J I_R A_R I_U I_T A_T I_S A_S I_X A_X I_Y A_Y I_C A_C I_D A_D I_M A_M) 240 [(0, .ref b), (1, .ref (a_F 0)), (2, .ref (a_M 0)), (3, .ref ao), (4, .int i)] [] := by
  refine vv_aload_n hC d_law_240 1 rfl rfl ?_
  refine vv_aload_n hC d_law_241 0 rfl rfl ?_
  refine vv_iload hC d_law_242 4 rfl ?_
  refine vv_iconst hC d_law_244 (v := (1 : Int32)) (by decide) ?_
  refine vv_iadd hC d_law_245 ?_
  refine vv_sld hC hX hbl (Nat.not_le.mpr hbl) h1 d_law_246 ?_
  refine vv_pm (pm3 _ _ _) ?_
  refine vv_callVIa hC (wo cA ao J ++ kc_M cA a_M I_M A_M) 45 (c_F_fault l D cA sx a_F a_R a_U a_T a_S a_X a_Y a_C a_D I_R A_R I_U I_T A_T I_S A_S I_X A_X I_Y A_Y I_C A_C I_D A_D (xs (i + 1).toNatClampNeg) _ (p_fault r)) (cw_L_38 hC) d_law_247 [] hc (fun _ => rfl) rfl rfl rfl rfl (Nat.le_of_ble_eq_true rfl) (fun r_u u hw => ?_)
  refine vv_aload_n hC d_law_250 2 rfl rfl ?_
  refine vv_aload_n hC d_law_251 0 rfl rfl ?_
  refine vv_iload hC d_law_252 4 rfl ?_
  refine vv_iconst hC d_law_254 (v := (1 : Int32)) (by decide) ?_
  refine vv_iadd hC d_law_255 ?_
  refine vv_sld hC hX hbl (Nat.not_le.mpr hbl) h1 d_law_256 ?_
  refine vv_pm (pm3 _ _ _) ?_
  refine vv_callVIa hC (wo cA ao J ++ wF cA a_F a_R a_U a_T a_S a_X a_Y a_C a_D I_R A_R I_U I_T A_T I_S A_S I_X A_X I_Y A_Y I_C A_C I_D A_D) 24 (c_M_fault l D cA sx a_M I_M A_M (xs (i + 1).toNatClampNeg) _ hw) (cw_L_41 hC) d_law_257 [.int r_u] hc (fun _ => rfl) rfl rfl rfl rfl (Nat.le_of_ble_eq_true rfl) (fun r_w w hw => ?_)
  refine vv_icmp_eq hC 478 d_law_260 (by decide) (fun _ => ?_) (fun z => absurd hw.1 z)
  exact k a_C a_D J I_R A_R I_U I_T A_T I_S A_S I_X A_X I_Y A_Y I_C A_C I_D A_D (w) A_M hw.2
set_option maxHeartbeats 4000000 in
set_option maxRecDepth 100000 in
theorem law_many {p : Program} {l : Launch} {e : Env} {s : State} {m : MethodId} {below : List Frame} {meth : Method} {c : Code} {D : va_G} {cA : Nat → ClassId} {sx : Nat → Nat} {b Ln : Nat} {xs : Nat → Int32} {ao : Nat} {a_F a_R a_U a_T a_S a_X a_Y a_C a_D a_M : Nat → Nat} {J : Nat → Int64} {I_R I_U I_T I_S I_X I_Y I_C I_D I_M : NI} {A_R A_T A_S A_X A_Y A_C A_D A_M : NNI} {cells slots : Nat} {Q : State → Prop} {i : Int32} (hC : CX p s m #[Value.ref b] meth c code R_L TB 7 D vwCl (tyl cA) (fun q : Nat => s.heap.size ≤ q) (SPl sx) ret) (hX : va_X b Ln xs s s.heap) (hbl : b < s.heap.size) (hc : cells ≤ room_1.cells ∧ slots ≤ room_1.slots) (r : RL I_U I_T A_T I_X A_X I_Y A_Y I_C A_C A_D I_M A_M) (h1 : vp_in (i + 1) Ln) (h2 : vp_in (i + 2) Ln) (h3 : vp_in (i + 3) Ln) (h4 : vp_in (i + 4) Ln) (h5 : vp_in (i + 5) Ln) (k : KK p l e s m below meth c D cA b ao a_F a_R a_U a_T a_S a_X a_Y a_M (cells) (slots) Q i) : VV p l e room_1 s m #[Value.ref b] below meth c 7 D vwCl (fun q : Nat => s.heap.size ≤ q) cells slots Q (wL cA ao a_F a_R a_U a_T a_S a_X a_Y a_C a_D a_M J I_R A_R I_U I_T A_T I_S A_S I_X A_X I_Y A_Y I_C A_C I_D A_D I_M A_M) 265 [(0, .ref b), (1, .ref (a_F 0)), (2, .ref (a_M 0)), (3, .ref ao), (4, .int i)] [] := by
  refine vv_aload_n hC d_law_265 1 rfl rfl ?_
  refine vv_aload_n hC d_law_266 0 rfl rfl ?_
  refine vv_iload hC d_law_267 4 rfl ?_
  refine vv_iconst hC d_law_269 (v := (1 : Int32)) (by decide) ?_
  refine vv_iadd hC d_law_270 ?_
  refine vv_sld hC hX hbl (Nat.not_le.mpr hbl) h1 d_law_271 ?_
  refine vv_pm (pm3 _ _ _) ?_
  refine vv_callVIa hC (wo cA ao J ++ kc_M cA a_M I_M A_M) 45 (c_F_many l D cA sx a_F a_R a_U a_T a_S a_X a_Y a_C a_D I_R A_R I_U I_T A_T I_S A_S I_X A_X I_Y A_Y I_C A_C I_D A_D (xs (i + 1).toNatClampNeg) _ (p_many r)) (cw_L_42 hC) d_law_272 [] hc (fun _ => rfl) rfl rfl rfl rfl (Nat.le_of_ble_eq_true rfl) (fun r_u u hw => ?_)
  refine vv_aload_n hC d_law_275 2 rfl rfl ?_
  refine vv_aload_n hC d_law_276 0 rfl rfl ?_
  refine vv_iload hC d_law_277 4 rfl ?_
  refine vv_iconst hC d_law_279 (v := (1 : Int32)) (by decide) ?_
  refine vv_iadd hC d_law_280 ?_
  refine vv_sld hC hX hbl (Nat.not_le.mpr hbl) h1 d_law_281 ?_
  refine vv_pm (pm3 _ _ _) ?_
  refine vv_callVIa hC (wo cA ao J ++ wF cA a_F a_R a_U a_T a_S a_X a_Y a_C a_D I_R A_R I_U I_T A_T I_S A_S I_X A_X I_Y A_Y I_C A_C I_D A_D) 24 (c_M_many l D cA sx a_M I_M A_M (xs (i + 1).toNatClampNeg) _ hw) (cw_L_45 hC) d_law_282 [.int r_u] hc (fun _ => rfl) rfl rfl rfl rfl (Nat.le_of_ble_eq_true rfl) (fun r_w w hw => ?_)
  refine vv_icmp_eq hC 478 d_law_285 (by decide) (fun _ => ?_) (fun z => absurd hw.1 z)
  exact k a_C a_D J I_R A_R I_U I_T A_T I_S A_S I_X A_X I_Y A_Y I_C A_C I_D A_D (w) A_M hw.2
set_option maxHeartbeats 4000000 in
set_option maxRecDepth 100000 in
theorem law_symbol {p : Program} {l : Launch} {e : Env} {s : State} {m : MethodId} {below : List Frame} {meth : Method} {c : Code} {D : va_G} {cA : Nat → ClassId} {sx : Nat → Nat} {b Ln : Nat} {xs : Nat → Int32} {ao : Nat} {a_F a_R a_U a_T a_S a_X a_Y a_C a_D a_M : Nat → Nat} {J : Nat → Int64} {I_R I_U I_T I_S I_X I_Y I_C I_D I_M : NI} {A_R A_T A_S A_X A_Y A_C A_D A_M : NNI} {cells slots : Nat} {Q : State → Prop} {i : Int32} (hC : CX p s m #[Value.ref b] meth c code R_L TB 7 D vwCl (tyl cA) (fun q : Nat => s.heap.size ≤ q) (SPl sx) ret) (hX : va_X b Ln xs s s.heap) (hbl : b < s.heap.size) (hc : cells ≤ room_1.cells ∧ slots ≤ room_1.slots) (r : RL I_U I_T A_T I_X A_X I_Y A_Y I_C A_C A_D I_M A_M) (h1 : vp_in (i + 1) Ln) (h2 : vp_in (i + 2) Ln) (h3 : vp_in (i + 3) Ln) (h4 : vp_in (i + 4) Ln) (h5 : vp_in (i + 5) Ln) (k : KK p l e s m below meth c D cA b ao a_F a_R a_U a_T a_S a_X a_Y a_M (cells) (slots) Q i) : VV p l e room_1 s m #[Value.ref b] below meth c 7 D vwCl (fun q : Nat => s.heap.size ≤ q) cells slots Q (wL cA ao a_F a_R a_U a_T a_S a_X a_Y a_C a_D a_M J I_R A_R I_U I_T A_T I_S A_S I_X A_X I_Y A_Y I_C A_C I_D A_D I_M A_M) 290 [(0, .ref b), (1, .ref (a_F 0)), (2, .ref (a_M 0)), (3, .ref ao), (4, .int i)] [] := by
  refine vv_aload_n hC d_law_290 1 rfl rfl ?_
  refine vv_aload_n hC d_law_291 0 rfl rfl ?_
  refine vv_iload hC d_law_292 4 rfl ?_
  refine vv_iconst hC d_law_294 (v := (1 : Int32)) (by decide) ?_
  refine vv_iadd hC d_law_295 ?_
  refine vv_sld hC hX hbl (Nat.not_le.mpr hbl) h1 d_law_296 ?_
  refine vv_aload_n hC d_law_297 0 rfl rfl ?_
  refine vv_iload hC d_law_298 4 rfl ?_
  refine vv_iconst hC d_law_300 (v := (2 : Int32)) (by decide) ?_
  refine vv_iadd hC d_law_301 ?_
  refine vv_sld hC hX hbl (Nat.not_le.mpr hbl) h2 d_law_302 ?_
  refine vv_aload_n hC d_law_303 0 rfl rfl ?_
  refine vv_iload hC d_law_304 4 rfl ?_
  refine vv_iconst hC d_law_306 (v := (3 : Int32)) (by decide) ?_
  refine vv_iadd hC d_law_307 ?_
  refine vv_sld hC hX hbl (Nat.not_le.mpr hbl) h3 d_law_308 ?_
  refine vv_pm (pm3 _ _ _) ?_
  refine vv_callVIa hC (wo cA ao J ++ kc_M cA a_M I_M A_M) 45 (c_F_symbol l D cA sx a_F a_R a_U a_T a_S a_X a_Y a_C a_D I_R A_R I_U I_T A_T I_S A_S I_X A_X I_Y A_Y I_C A_C I_D A_D (xs (i + 1).toNatClampNeg) (xs (i + 2).toNatClampNeg) (xs (i + 3).toNatClampNeg) _ (p_symb r)) (cw_L_46 hC) d_law_309 [] hc (fun _ => rfl) rfl rfl rfl rfl (Nat.le_of_ble_eq_true rfl) (fun r_u u hw => ?_)
  refine vv_aload_n hC d_law_312 2 rfl rfl ?_
  refine vv_aload_n hC d_law_313 0 rfl rfl ?_
  refine vv_iload hC d_law_314 4 rfl ?_
  refine vv_iconst hC d_law_316 (v := (1 : Int32)) (by decide) ?_
  refine vv_iadd hC d_law_317 ?_
  refine vv_sld hC hX hbl (Nat.not_le.mpr hbl) h1 d_law_318 ?_
  refine vv_aload_n hC d_law_319 0 rfl rfl ?_
  refine vv_iload hC d_law_320 4 rfl ?_
  refine vv_iconst hC d_law_322 (v := (2 : Int32)) (by decide) ?_
  refine vv_iadd hC d_law_323 ?_
  refine vv_sld hC hX hbl (Nat.not_le.mpr hbl) h2 d_law_324 ?_
  refine vv_aload_n hC d_law_325 0 rfl rfl ?_
  refine vv_iload hC d_law_326 4 rfl ?_
  refine vv_iconst hC d_law_328 (v := (3 : Int32)) (by decide) ?_
  refine vv_iadd hC d_law_329 ?_
  refine vv_sld hC hX hbl (Nat.not_le.mpr hbl) h3 d_law_330 ?_
  refine vv_pm (pm3 _ _ _) ?_
  refine vv_callVIa hC (wo cA ao J ++ wF cA a_F a_R a_U a_T a_S a_X a_Y a_C a_D I_R A_R I_U I_T A_T I_S A_S I_X A_X I_Y A_Y I_C A_C I_D A_D) 24 (c_M_symbol l D cA sx a_M I_M A_M (xs (i + 1).toNatClampNeg) (xs (i + 2).toNatClampNeg) (xs (i + 3).toNatClampNeg) _ hw) (cw_L_50 hC) d_law_331 [.int r_u] hc (fun _ => rfl) rfl rfl rfl rfl (Nat.le_of_ble_eq_true rfl) (fun r_w w hw => ?_)
  refine vv_icmp_eq hC 478 d_law_334 (by decide) (fun _ => ?_) (fun z => absurd hw.1 z)
  exact k a_C a_D J I_R A_R I_U I_T A_T I_S A_S I_X A_X I_Y A_Y I_C A_C I_D A_D (w) A_M hw.2
set_option maxHeartbeats 4000000 in
set_option maxRecDepth 100000 in
theorem law_reset {p : Program} {l : Launch} {e : Env} {s : State} {m : MethodId} {below : List Frame} {meth : Method} {c : Code} {D : va_G} {cA : Nat → ClassId} {sx : Nat → Nat} {b Ln : Nat} {xs : Nat → Int32} {ao : Nat} {a_F a_R a_U a_T a_S a_X a_Y a_C a_D a_M : Nat → Nat} {J : Nat → Int64} {I_R I_U I_T I_S I_X I_Y I_C I_D I_M : NI} {A_R A_T A_S A_X A_Y A_C A_D A_M : NNI} {cells slots : Nat} {Q : State → Prop} {i : Int32} (hC : CX p s m #[Value.ref b] meth c code R_L TB 7 D vwCl (tyl cA) (fun q : Nat => s.heap.size ≤ q) (SPl sx) ret) (hX : va_X b Ln xs s s.heap) (hbl : b < s.heap.size) (hc : cells ≤ room_1.cells ∧ slots ≤ room_1.slots) (r : RL I_U I_T A_T I_X A_X I_Y A_Y I_C A_C A_D I_M A_M) (h1 : vp_in (i + 1) Ln) (h2 : vp_in (i + 2) Ln) (h3 : vp_in (i + 3) Ln) (h4 : vp_in (i + 4) Ln) (h5 : vp_in (i + 5) Ln) (k : KK p l e s m below meth c D cA b ao a_F a_R a_U a_T a_S a_X a_Y a_M (cells) (slots) Q i) : VV p l e room_1 s m #[Value.ref b] below meth c 7 D vwCl (fun q : Nat => s.heap.size ≤ q) cells slots Q (wL cA ao a_F a_R a_U a_T a_S a_X a_Y a_C a_D a_M J I_R A_R I_U I_T A_T I_S A_S I_X A_X I_Y A_Y I_C A_C I_D A_D I_M A_M) 392 [(0, .ref b), (1, .ref (a_F 0)), (2, .ref (a_M 0)), (3, .ref ao), (4, .int i)] [] := by
  refine vv_aload_n hC d_law_392 1 rfl rfl ?_
  refine vv_pm (pm3 _ _ _) ?_
  refine vv_callVVa hC (wo cA ao J ++ kc_M cA a_M I_M A_M) 45 (c_F_reset l D cA sx a_F a_R a_U a_T a_S a_X a_Y a_C a_D I_R A_R I_U I_T A_T I_S A_S I_X A_X I_Y A_Y I_C A_C I_D A_D _ (p_reset r)) (cw_L_56 hC) d_law_393 [] hc (fun _ => rfl) rfl rfl rfl rfl (Nat.le_of_ble_eq_true rfl) (fun u hw => ?_)
  refine vv_aload_n hC d_law_396 2 rfl rfl ?_
  refine vv_pm (pm3 _ _ _) ?_
  refine vv_callVVa hC (wo cA ao J ++ wF cA a_F a_R a_U a_T a_S a_X a_Y a_C a_D I_R A_R I_U I_T A_T I_S A_S I_X A_X I_Y A_Y (u) A_C I_D A_D) 24 (c_M_reset l D cA sx a_M I_M A_M _ hw) (cw_L_59 hC) d_law_397 [] hc (fun _ => rfl) rfl rfl rfl rfl (Nat.le_of_ble_eq_true rfl) (fun w hw => ?_)
  refine vv_goto hC 478 d_law_400 (by decide) ?_
  exact k a_C a_D J I_R A_R I_U I_T A_T I_S A_S I_X A_X I_Y A_Y (u) A_C I_D A_D (w) A_M hw
set_option maxHeartbeats 4000000 in
set_option maxRecDepth 100000 in
theorem law_state {p : Program} {l : Launch} {e : Env} {s : State} {m : MethodId} {below : List Frame} {meth : Method} {c : Code} {D : va_G} {cA : Nat → ClassId} {sx : Nat → Nat} {b Ln : Nat} {xs : Nat → Int32} {ao : Nat} {a_F a_R a_U a_T a_S a_X a_Y a_C a_D a_M : Nat → Nat} {J : Nat → Int64} {I_R I_U I_T I_S I_X I_Y I_C I_D I_M : NI} {A_R A_T A_S A_X A_Y A_C A_D A_M : NNI} {cells slots : Nat} {Q : State → Prop} {i : Int32} (hC : CX p s m #[Value.ref b] meth c code R_L TB 7 D vwCl (tyl cA) (fun q : Nat => s.heap.size ≤ q) (SPl sx) ret) (hX : va_X b Ln xs s s.heap) (hbl : b < s.heap.size) (hc : cells ≤ room_1.cells ∧ slots ≤ room_1.slots) (r : RL I_U I_T A_T I_X A_X I_Y A_Y I_C A_C A_D I_M A_M) (h1 : vp_in (i + 1) Ln) (h2 : vp_in (i + 2) Ln) (h3 : vp_in (i + 3) Ln) (h4 : vp_in (i + 4) Ln) (h5 : vp_in (i + 5) Ln) (k : KK p l e s m below meth c D cA b ao a_F a_R a_U a_T a_S a_X a_Y a_M (cells) (slots) Q i) : VV p l e room_1 s m #[Value.ref b] below meth c 7 D vwCl (fun q : Nat => s.heap.size ≤ q) cells slots Q (wL cA ao a_F a_R a_U a_T a_S a_X a_Y a_C a_D a_M J I_R A_R I_U I_T A_T I_S A_S I_X A_X I_Y A_Y I_C A_C I_D A_D I_M A_M) 403 [(0, .ref b), (1, .ref (a_F 0)), (2, .ref (a_M 0)), (3, .ref ao), (4, .int i)] [] := by
  refine vv_aload_n hC d_law_403 1 rfl rfl ?_
  refine vv_pm (pm3 _ _ _) ?_
  refine vv_callVIa hC (wo cA ao J ++ kc_M cA a_M I_M A_M) 45 (c_F_state l D cA sx a_F a_R a_U a_T a_S a_X a_Y a_C a_D I_R A_R I_U I_T A_T I_S A_S I_X A_X I_Y A_Y I_C A_C I_D A_D _ (p_state r)) (cw_L_60 hC) d_law_404 [] hc (fun _ => rfl) rfl rfl rfl rfl (Nat.le_of_ble_eq_true rfl) (fun r_u u hw => ?_)
  refine vv_aload_n hC d_law_407 2 rfl rfl ?_
  refine vv_pm (pm3 _ _ _) ?_
  refine vv_callVIa hC (wo cA ao J ++ wF cA a_F a_R a_U a_T a_S a_X a_Y a_C a_D I_R A_R I_U I_T A_T I_S A_S I_X A_X I_Y A_Y I_C A_C I_D A_D) 24 (c_M_state l D cA sx a_M I_M A_M _ hw) (cw_L_63 hC) d_law_408 [.int r_u] hc (fun _ => rfl) rfl rfl rfl rfl (Nat.le_of_ble_eq_true rfl) (fun r_w w hw => ?_)
  refine vv_icmp_eq hC 478 d_law_411 (by decide) (fun _ => ?_) (fun z => absurd hw.1 z)
  exact k a_C a_D J I_R A_R I_U I_T A_T I_S A_S I_X A_X I_Y A_Y I_C A_C I_D A_D (w) A_M hw.2
set_option maxHeartbeats 4000000 in
set_option maxRecDepth 100000 in
theorem law_value {p : Program} {l : Launch} {e : Env} {s : State} {m : MethodId} {below : List Frame} {meth : Method} {c : Code} {D : va_G} {cA : Nat → ClassId} {sx : Nat → Nat} {b Ln : Nat} {xs : Nat → Int32} {ao : Nat} {a_F a_R a_U a_T a_S a_X a_Y a_C a_D a_M : Nat → Nat} {J : Nat → Int64} {I_R I_U I_T I_S I_X I_Y I_C I_D I_M : NI} {A_R A_T A_S A_X A_Y A_C A_D A_M : NNI} {cells slots : Nat} {Q : State → Prop} {i : Int32} (hC : CX p s m #[Value.ref b] meth c code R_L TB 7 D vwCl (tyl cA) (fun q : Nat => s.heap.size ≤ q) (SPl sx) ret) (hX : va_X b Ln xs s s.heap) (hbl : b < s.heap.size) (hc : cells ≤ room_1.cells ∧ slots ≤ room_1.slots) (r : RL I_U I_T A_T I_X A_X I_Y A_Y I_C A_C A_D I_M A_M) (h1 : vp_in (i + 1) Ln) (h2 : vp_in (i + 2) Ln) (h3 : vp_in (i + 3) Ln) (h4 : vp_in (i + 4) Ln) (h5 : vp_in (i + 5) Ln) (k : KK p l e s m below meth c D cA b ao a_F a_R a_U a_T a_S a_X a_Y a_M (cells) (slots) Q i) : VV p l e room_1 s m #[Value.ref b] below meth c 7 D vwCl (fun q : Nat => s.heap.size ≤ q) cells slots Q (wL cA ao a_F a_R a_U a_T a_S a_X a_Y a_C a_D a_M J I_R A_R I_U I_T A_T I_S A_S I_X A_X I_Y A_Y I_C A_C I_D A_D I_M A_M) 416 [(0, .ref b), (1, .ref (a_F 0)), (2, .ref (a_M 0)), (3, .ref ao), (4, .int i)] [] := by
  refine vv_aload_n hC d_law_416 1 rfl rfl ?_
  refine vv_aload_n hC d_law_417 0 rfl rfl ?_
  refine vv_iload hC d_law_418 4 rfl ?_
  refine vv_iconst hC d_law_420 (v := (1 : Int32)) (by decide) ?_
  refine vv_iadd hC d_law_421 ?_
  refine vv_sld hC hX hbl (Nat.not_le.mpr hbl) h1 d_law_422 ?_
  refine vv_aload_n hC d_law_423 0 rfl rfl ?_
  refine vv_iload hC d_law_424 4 rfl ?_
  refine vv_iconst hC d_law_426 (v := (2 : Int32)) (by decide) ?_
  refine vv_iadd hC d_law_427 ?_
  refine vv_sld hC hX hbl (Nat.not_le.mpr hbl) h2 d_law_428 ?_
  refine vv_pm (pm3 _ _ _) ?_
  refine vv_callVIa hC (wo cA ao J ++ kc_M cA a_M I_M A_M) 45 (c_F_value l D cA sx a_F a_R a_U a_T a_S a_X a_Y a_C a_D I_R A_R I_U I_T A_T I_S A_S I_X A_X I_Y A_Y I_C A_C I_D A_D (xs (i + 1).toNatClampNeg) (xs (i + 2).toNatClampNeg) _ (p_value r)) (cw_L_64 hC) d_law_429 [] hc (fun _ => rfl) rfl rfl rfl rfl (Nat.le_of_ble_eq_true rfl) (fun r_u u hw => ?_)
  refine vv_aload_n hC d_law_432 2 rfl rfl ?_
  refine vv_aload_n hC d_law_433 0 rfl rfl ?_
  refine vv_iload hC d_law_434 4 rfl ?_
  refine vv_iconst hC d_law_436 (v := (1 : Int32)) (by decide) ?_
  refine vv_iadd hC d_law_437 ?_
  refine vv_sld hC hX hbl (Nat.not_le.mpr hbl) h1 d_law_438 ?_
  refine vv_aload_n hC d_law_439 0 rfl rfl ?_
  refine vv_iload hC d_law_440 4 rfl ?_
  refine vv_iconst hC d_law_442 (v := (2 : Int32)) (by decide) ?_
  refine vv_iadd hC d_law_443 ?_
  refine vv_sld hC hX hbl (Nat.not_le.mpr hbl) h2 d_law_444 ?_
  refine vv_pm (pm3 _ _ _) ?_
  refine vv_callVIa hC (wo cA ao J ++ wF cA a_F a_R a_U a_T a_S a_X a_Y a_C a_D I_R A_R I_U I_T A_T I_S A_S I_X A_X I_Y A_Y I_C (u) I_D A_D) 24 (c_M_value l D cA sx a_M I_M A_M (xs (i + 1).toNatClampNeg) (xs (i + 2).toNatClampNeg) _ hw) (cw_L_68 hC) d_law_445 [.int r_u] hc (fun _ => rfl) rfl rfl rfl rfl (Nat.le_of_ble_eq_true rfl) (fun r_w w hw => ?_)
  refine vv_icmp_eq hC 478 d_law_448 (by decide) (fun _ => ?_) (fun z => absurd hw.1 z)
  exact k a_C a_D J I_R A_R I_U I_T A_T I_S A_S I_X A_X I_Y A_Y I_C (u) I_D A_D (w.1) (w.2) hw.2
set_option maxHeartbeats 4000000 in
set_option maxRecDepth 100000 in
theorem law_step {p : Program} {l : Launch} {e : Env} {s : State} {m : MethodId} {below : List Frame} {meth : Method} {c : Code} {D : va_G} {cA : Nat → ClassId} {sx : Nat → Nat} {b Ln : Nat} {xs : Nat → Int32} {ao : Nat} {a_F a_R a_U a_T a_S a_X a_Y a_C a_D a_M : Nat → Nat} {J : Nat → Int64} {I_R I_U I_T I_S I_X I_Y I_C I_D I_M : NI} {A_R A_T A_S A_X A_Y A_C A_D A_M : NNI} {cells slots : Nat} {Q : State → Prop} {i : Int32} (hC : CX p s m #[Value.ref b] meth c code R_L TB 7 D vwCl (tyl cA) (fun q : Nat => s.heap.size ≤ q) (SPl sx) ret) (hX : va_X b Ln xs s s.heap) (hbl : b < s.heap.size) (hc : cells ≤ room_1.cells ∧ slots ≤ room_1.slots) (r : RL I_U I_T A_T I_X A_X I_Y A_Y I_C A_C A_D I_M A_M) (h1 : vp_in (i + 1) Ln) (h2 : vp_in (i + 2) Ln) (h3 : vp_in (i + 3) Ln) (h4 : vp_in (i + 4) Ln) (h5 : vp_in (i + 5) Ln) (k : KK p l e s m below meth c D cA b ao a_F a_R a_U a_T a_S a_X a_Y a_M (cells) (slots) Q i) : VV p l e room_1 s m #[Value.ref b] below meth c 7 D vwCl (fun q : Nat => s.heap.size ≤ q) cells slots Q (wL cA ao a_F a_R a_U a_T a_S a_X a_Y a_C a_D a_M J I_R A_R I_U I_T A_T I_S A_S I_X A_X I_Y A_Y I_C A_C I_D A_D I_M A_M) 453 [(0, .ref b), (1, .ref (a_F 0)), (2, .ref (a_M 0)), (3, .ref ao), (4, .int i)] [] := by
  refine vv_aload_n hC d_law_453 1 rfl rfl ?_
  refine vv_aload_n hC d_law_454 0 rfl rfl ?_
  refine vv_iload hC d_law_455 4 rfl ?_
  refine vv_iconst hC d_law_457 (v := (1 : Int32)) (by decide) ?_
  refine vv_iadd hC d_law_458 ?_
  refine vv_sld hC hX hbl (Nat.not_le.mpr hbl) h1 d_law_459 ?_
  refine vv_pm (pm3 _ _ _) ?_
  refine vv_callVIa hC (wo cA ao J ++ kc_M cA a_M I_M A_M) 45 (c_F_step l D cA sx a_F a_R a_U a_T a_S a_X a_Y a_C a_D I_R A_R I_U I_T A_T I_S A_S I_X A_X I_Y A_Y I_C A_C I_D A_D (xs (i + 1).toNatClampNeg) _ (p_step r)) (cw_L_69 hC) d_law_460 [] hc (fun _ => rfl) rfl rfl rfl rfl (Nat.le_of_ble_eq_true rfl) (fun r_u u hw => ?_)
  refine vv_aload_n hC d_law_463 2 rfl rfl ?_
  refine vv_aload_n hC d_law_464 0 rfl rfl ?_
  refine vv_iload hC d_law_465 4 rfl ?_
  refine vv_iconst hC d_law_467 (v := (1 : Int32)) (by decide) ?_
  refine vv_iadd hC d_law_468 ?_
  refine vv_sld hC hX hbl (Nat.not_le.mpr hbl) h1 d_law_469 ?_
  refine vv_pm (pm3 _ _ _) ?_
  refine vv_callVIa hC (wo cA ao J ++ wF cA a_F a_R a_U a_T a_S a_X a_Y a_C a_D I_R A_R I_U I_T A_T I_S A_S I_X A_X I_Y A_Y (u.1) (u.2) I_D A_D) 24 (c_M_step l D cA sx a_M I_M A_M (xs (i + 1).toNatClampNeg) _ hw) (cw_L_72 hC) d_law_470 [.int r_u] hc (fun _ => rfl) rfl rfl rfl rfl (Nat.le_of_ble_eq_true rfl) (fun r_w w hw => ?_)
  refine vv_icmp_eq hC 478 d_law_473 (by decide) (fun _ => ?_) (fun z => absurd hw.1 z)
  exact k a_C a_D J I_R A_R I_U I_T A_T I_S A_S I_X A_X I_Y A_Y (u.1) (u.2) I_D A_D (w.1) (w.2) hw.2
set_option maxHeartbeats 4000000 in
set_option maxRecDepth 100000 in
theorem law_form {p : Program} {l : Launch} {e : Env} {s : State} {m : MethodId} {below : List Frame} {meth : Method} {c : Code} {D : va_G} {cA : Nat → ClassId} {sx : Nat → Nat} {b Ln : Nat} {xs : Nat → Int32} {ao : Nat} {a_F a_R a_U a_T a_S a_X a_Y a_C a_D a_M : Nat → Nat} {J : Nat → Int64} {I_R I_U I_T I_S I_X I_Y I_C I_D I_M : NI} {A_R A_T A_S A_X A_Y A_C A_D A_M : NNI} {cells slots : Nat} {Q : State → Prop} {i : Int32} (hC : CX p s m #[Value.ref b] meth c code R_L TB 7 D vwCl (tyl cA) (fun q : Nat => s.heap.size ≤ q) (SPl sx) ret) (hX : va_X b Ln xs s s.heap) (hbl : b < s.heap.size) (hc : cells ≤ room_1.cells ∧ slots ≤ room_1.slots) (r : RL I_U I_T A_T I_X A_X I_Y A_Y I_C A_C A_D I_M A_M) (h1 : vp_in (i + 1) Ln) (h2 : vp_in (i + 2) Ln) (h3 : vp_in (i + 3) Ln) (h4 : vp_in (i + 4) Ln) (h5 : vp_in (i + 5) Ln) (k : KK p l e s m below meth c D cA b ao a_F a_R a_U a_T a_S a_X a_Y a_M (cells) (slots) Q i) : VV p l e room_1 s m #[Value.ref b] below meth c 7 D vwCl (fun q : Nat => s.heap.size ≤ q) cells slots Q (wL cA ao a_F a_R a_U a_T a_S a_X a_Y a_C a_D a_M J I_R A_R I_U I_T A_T I_S A_S I_X A_X I_Y A_Y I_C A_C I_D A_D I_M A_M) 339 [(0, .ref b), (1, .ref (a_F 0)), (2, .ref (a_M 0)), (3, .ref ao), (4, .int i)] [] := by
  refine vv_aload_n hC d_law_339 1 rfl rfl ?_
  refine vv_aload_n hC d_law_340 0 rfl rfl ?_
  refine vv_iload hC d_law_341 4 rfl ?_
  refine vv_iconst hC d_law_343 (v := (1 : Int32)) (by decide) ?_
  refine vv_iadd hC d_law_344 ?_
  refine vv_sld hC hX hbl (Nat.not_le.mpr hbl) h1 d_law_345 ?_
  refine vv_if_eq hC 353 d_law_346 (by decide) (fun z1 => ?_) (fun z1 => ?_)
  · refine vv_iconst hC d_law_353 (v := (0 : Int32)) (by decide) ?_
    refine vv_aload_n hC d_law_354 0 rfl rfl ?_
    refine vv_iload hC d_law_355 4 rfl ?_
    refine vv_iconst hC d_law_357 (v := (2 : Int32)) (by decide) ?_
    refine vv_iadd hC d_law_358 ?_
    refine vv_sld hC hX hbl (Nat.not_le.mpr hbl) h2 d_law_359 ?_
    refine vv_pm (pm3 _ _ _) ?_
    refine vv_callVIa hC (wo cA ao J ++ kc_M cA a_M I_M A_M) 45 (c_F_form l D cA sx a_F a_R a_U a_T a_S a_X a_Y a_C a_D I_R A_R I_U I_T A_T I_S A_S I_X A_X I_Y A_Y I_C A_C I_D A_D (0 : Int32) (xs (i + 2).toNatClampNeg) _ (p_form (Or.inl rfl) r)) (cw_L_51 hC) d_law_360 [] hc (fun _ => rfl) rfl rfl rfl rfl (Nat.le_of_ble_eq_true rfl) (fun r_u u hw => ?_)
    refine vv_aload_n hC d_law_363 2 rfl rfl ?_
    refine vv_aload_n hC d_law_364 0 rfl rfl ?_
    refine vv_iload hC d_law_365 4 rfl ?_
    refine vv_iconst hC d_law_367 (v := (1 : Int32)) (by decide) ?_
    refine vv_iadd hC d_law_368 ?_
    refine vv_sld hC hX hbl (Nat.not_le.mpr hbl) h1 d_law_369 ?_
    refine vv_if_eq hC 377 d_law_370 (by decide) (fun z2 => ?_) (fun z2 => ?_)
    · refine vv_iconst hC d_law_377 (v := (0 : Int32)) (by decide) ?_
      refine vv_aload_n hC d_law_378 0 rfl rfl ?_
      refine vv_iload hC d_law_379 4 rfl ?_
      refine vv_iconst hC d_law_381 (v := (2 : Int32)) (by decide) ?_
      refine vv_iadd hC d_law_382 ?_
      refine vv_sld hC hX hbl (Nat.not_le.mpr hbl) h2 d_law_383 ?_
      refine vv_pm (pm3 _ _ _) ?_
      refine vv_callVIa hC (wo cA ao J ++ wF cA a_F a_R a_U a_T a_S a_X a_Y a_C a_D I_R A_R I_U I_T A_T I_S A_S (u.1) (u.2.1) (u.2.2.1) (u.2.2.2) I_C A_C I_D A_D) 24 (c_M_form l D cA sx a_M I_M A_M (0 : Int32) (xs (i + 2).toNatClampNeg) _ hw) (cw_L_55 hC) d_law_384 [.int r_u] hc (fun _ => rfl) rfl rfl rfl rfl (Nat.le_of_ble_eq_true rfl) (fun r_w w hw => ?_)
      refine vv_icmp_eq hC 478 d_law_387 (by decide) (fun _ => ?_) (fun z => absurd hw.1 z)
      exact k a_C a_D J I_R A_R I_U I_T A_T I_S A_S (u.1) (u.2.1) (u.2.2.1) (u.2.2.2) I_C A_C I_D A_D (w.1) (w.2) hw.2
    · exact absurd z1 z2
  · refine vv_iconst hC d_law_349 (v := (1 : Int32)) (by decide) ?_
    refine vv_goto hC 354 d_law_350 (by decide) ?_
    refine vv_aload_n hC d_law_354 0 rfl rfl ?_
    refine vv_iload hC d_law_355 4 rfl ?_
    refine vv_iconst hC d_law_357 (v := (2 : Int32)) (by decide) ?_
    refine vv_iadd hC d_law_358 ?_
    refine vv_sld hC hX hbl (Nat.not_le.mpr hbl) h2 d_law_359 ?_
    refine vv_pm (pm3 _ _ _) ?_
    refine vv_callVIa hC (wo cA ao J ++ kc_M cA a_M I_M A_M) 45 (c_F_form l D cA sx a_F a_R a_U a_T a_S a_X a_Y a_C a_D I_R A_R I_U I_T A_T I_S A_S I_X A_X I_Y A_Y I_C A_C I_D A_D (1 : Int32) (xs (i + 2).toNatClampNeg) _ (p_form (Or.inr rfl) r)) (cw_L_51 hC) d_law_360 [] hc (fun _ => rfl) rfl rfl rfl rfl (Nat.le_of_ble_eq_true rfl) (fun r_u u hw => ?_)
    refine vv_aload_n hC d_law_363 2 rfl rfl ?_
    refine vv_aload_n hC d_law_364 0 rfl rfl ?_
    refine vv_iload hC d_law_365 4 rfl ?_
    refine vv_iconst hC d_law_367 (v := (1 : Int32)) (by decide) ?_
    refine vv_iadd hC d_law_368 ?_
    refine vv_sld hC hX hbl (Nat.not_le.mpr hbl) h1 d_law_369 ?_
    refine vv_if_eq hC 377 d_law_370 (by decide) (fun z2 => ?_) (fun z2 => ?_)
    · exact absurd z2 z1
    · refine vv_iconst hC d_law_373 (v := (1 : Int32)) (by decide) ?_
      refine vv_goto hC 378 d_law_374 (by decide) ?_
      refine vv_aload_n hC d_law_378 0 rfl rfl ?_
      refine vv_iload hC d_law_379 4 rfl ?_
      refine vv_iconst hC d_law_381 (v := (2 : Int32)) (by decide) ?_
      refine vv_iadd hC d_law_382 ?_
      refine vv_sld hC hX hbl (Nat.not_le.mpr hbl) h2 d_law_383 ?_
      refine vv_pm (pm3 _ _ _) ?_
      refine vv_callVIa hC (wo cA ao J ++ wF cA a_F a_R a_U a_T a_S a_X a_Y a_C a_D I_R A_R I_U I_T A_T I_S A_S (u.1) (u.2.1) (u.2.2.1) (u.2.2.2) I_C A_C I_D A_D) 24 (c_M_form l D cA sx a_M I_M A_M (1 : Int32) (xs (i + 2).toNatClampNeg) _ hw) (cw_L_55 hC) d_law_384 [.int r_u] hc (fun _ => rfl) rfl rfl rfl rfl (Nat.le_of_ble_eq_true rfl) (fun r_w w hw => ?_)
      refine vv_icmp_eq hC 478 d_law_387 (by decide) (fun _ => ?_) (fun z => absurd hw.1 z)
      exact k a_C a_D J I_R A_R I_U I_T A_T I_S A_S (u.1) (u.2.1) (u.2.2.1) (u.2.2.2) I_C A_C I_D A_D (w.1) (w.2) hw.2
set_option maxHeartbeats 4000000 in
set_option maxRecDepth 100000 in
theorem law_load {p : Program} {l : Launch} {e : Env} {s : State} {m : MethodId} {below : List Frame} {meth : Method} {c : Code} {D : va_G} {cA : Nat → ClassId} {sx : Nat → Nat} {b Ln : Nat} {xs : Nat → Int32} {ao : Nat} {a_F a_R a_U a_T a_S a_X a_Y a_C a_D a_M : Nat → Nat} {J : Nat → Int64} {I_R I_U I_T I_S I_X I_Y I_C I_D I_M : NI} {A_R A_T A_S A_X A_Y A_C A_D A_M : NNI} {cells slots : Nat} {Q : State → Prop} {i : Int32} (hC : CX p s m #[Value.ref b] meth c code R_L TB 7 D vwCl (tyl cA) (fun q : Nat => s.heap.size ≤ q) (SPl sx) ret) (hX : va_X b Ln xs s s.heap) (hbl : b < s.heap.size) (hc : cells ≤ room_1.cells ∧ slots ≤ room_1.slots) (r : RL I_U I_T A_T I_X A_X I_Y A_Y I_C A_C A_D I_M A_M) (hl : l.stackTraces = false) (hc2 : cells + 1 ≤ room_1.cells ∧ slots + 6 ≤ room_1.slots)  (k : KK p l e s m below meth c D cA b ao a_F a_R a_U a_T a_S a_X a_Y a_M (cells + 1) (slots + 6) Q i) : VV p l e room_1 s m #[Value.ref b] below meth c 7 D vwCl (fun q : Nat => s.heap.size ≤ q) cells slots Q (wL cA ao a_F a_R a_U a_T a_S a_X a_Y a_C a_D a_M J I_R A_R I_U I_T A_T I_S A_S I_X A_X I_Y A_Y I_C A_C I_D A_D I_M A_M) 196 [(0, .ref b), (1, .ref (a_F 0)), (2, .ref (a_M 0)), (3, .ref ao), (4, .int i)] [] := by
  refine vv_aload_n hC d_law_196 1 rfl rfl ?_
  refine vv_aload_n hC d_law_197 3 rfl rfl ?_
  refine vv_pm List.perm_append_comm ?_
  refine vv_callSWa hC (kc_M cA a_M I_M A_M) 46 (c_L_load l hl D cA sx ao a_F a_R a_U a_T a_S a_X a_Y a_C a_D I_R A_R I_U I_T A_T I_S A_S I_X A_X I_Y A_Y I_C A_C I_D A_D J _ (p_load r)) (gC tb_452) rfl rfl ⟨Nat.le_of_ble_eq_true rfl, Nat.le_of_ble_eq_true rfl⟩ tb_0 tb_450 tb_451 (by decide) lawdesc d_law_198 [] hc2 (fun _ => rfl) rfl rfl (Nat.le_of_ble_eq_true rfl) (fun r_u u hw => ?_)
  refine vv_pm List.perm_append_comm ?_
  refine vv_istore hC d_law_201 (by decide) [1, 2, 3, 4, 5, 0] (L2 := [(0, .ref b), (1, .ref (a_F 0)), (2, .ref (a_M 0)), (3, .ref ao), (4, .int i), (5, .int r_u)]) rfl ?_
  refine vv_aload_n hC d_law_203 2 rfl rfl ?_
  refine vv_callVIa hC (wo cA ao (u.2.2.2.2.2.2.2.2.2.2.2.2.2.2) ++ wF cA a_F a_R a_U a_T a_S a_X a_Y (u.2.2.2.2.2.2.2.2.2.2.2.2.1) (u.2.2.2.2.2.2.2.2.2.2.2.2.2.1) (u.1) (u.2.1) (u.2.2.1) (u.2.2.2.1) A_T (u.2.2.2.2.1) (u.2.2.2.2.2.1) (u.2.2.2.2.2.2.1) A_X (u.2.2.2.2.2.2.2.1) A_Y (u.2.2.2.2.2.2.2.2.1) (u.2.2.2.2.2.2.2.2.2.1) (u.2.2.2.2.2.2.2.2.2.2.1) (u.2.2.2.2.2.2.2.2.2.2.2.1)) 24 (c_M_load l D cA sx a_M I_M A_M _ hw) (cw_L_34 hC) d_law_204 [] hc2 (fun _ => rfl) rfl rfl rfl rfl (Nat.le_of_ble_eq_true rfl) (fun r_w w hw => ?_)
  refine vv_istore hC d_law_207 (by decide) [1, 2, 3, 4, 5, 6, 0] (L2 := [(0, .ref b), (1, .ref (a_F 0)), (2, .ref (a_M 0)), (3, .ref ao), (4, .int i), (5, .int r_u), (6, .int r_w)]) rfl ?_
  refine vv_aload_n hC d_law_209 2 rfl rfl ?_
  refine vv_callVIa hC (wo cA ao (u.2.2.2.2.2.2.2.2.2.2.2.2.2.2) ++ wF cA a_F a_R a_U a_T a_S a_X a_Y (u.2.2.2.2.2.2.2.2.2.2.2.2.1) (u.2.2.2.2.2.2.2.2.2.2.2.2.2.1) (u.1) (u.2.1) (u.2.2.1) (u.2.2.2.1) A_T (u.2.2.2.2.1) (u.2.2.2.2.2.1) (u.2.2.2.2.2.2.1) A_X (u.2.2.2.2.2.2.2.1) A_Y (u.2.2.2.2.2.2.2.2.1) (u.2.2.2.2.2.2.2.2.2.1) (u.2.2.2.2.2.2.2.2.2.2.1) (u.2.2.2.2.2.2.2.2.2.2.2.1)) 24 (c_M_thrown l D cA sx a_M (w.1) (w.2) (fun t => t = (w.1) 0) rfl) (cw_L_35 hC) d_law_210 [] hc2 (fun _ => rfl) rfl rfl rfl rfl (Nat.le_of_ble_eq_true rfl) (fun r_y y hy => ?_)
  obtain ⟨g1, g2, g3⟩ := hw
  refine vv_iload hC d_law_213 5 rfl ?_
  refine vv_icmp_eq hC 220 d_law_215 (by decide) (fun _ => ?_) (fun z => absurd (hy.trans g1) z)
  refine vv_iload hC d_law_220 5 rfl ?_
  refine vv_if_ne hC 237 d_law_222 (by decide) (fun z => ?_) (fun z => ?_)
  · refine vv_goto hC 478 d_law_237 (by decide) ?_
    refine vv_sub [0, 1, 2, 3, 4] (L2 := [(0, .ref b), (1, .ref (a_F 0)), (2, .ref (a_M 0)), (3, .ref ao), (4, .int i)]) rfl ?_
    exact k (u.2.2.2.2.2.2.2.2.2.2.2.2.1) (u.2.2.2.2.2.2.2.2.2.2.2.2.2.1) (u.2.2.2.2.2.2.2.2.2.2.2.2.2.2) (u.1) (u.2.1) (u.2.2.1) (u.2.2.2.1) A_T (u.2.2.2.2.1) (u.2.2.2.2.2.1) (u.2.2.2.2.2.2.1) A_X (u.2.2.2.2.2.2.2.1) A_Y (u.2.2.2.2.2.2.2.2.1) (u.2.2.2.2.2.2.2.2.2.1) (u.2.2.2.2.2.2.2.2.2.2.1) (u.2.2.2.2.2.2.2.2.2.2.2.1) (w.1) (w.2) g3
  · refine vv_aload_n hC d_law_225 3 rfl rfl ?_
    refine vv_iconst hC d_law_226 (v := (0 : Int32)) (by decide) ?_
    refine vv_lald hC 0 3 d_law_227 rfl rfl (vin_c (by decide)) ?_
    refine vv_iload hC d_law_228 6 rfl ?_
    refine vv_i2l hC d_law_230 ?_
    refine vv_lcmp hC d_law_231 ?_
    refine vv_if_eq hC 237 d_law_232 (by decide) (fun _ => ?_) (fun z2 => absurd (lcmp0 (g2 z)) z2)
    refine vv_goto hC 478 d_law_237 (by decide) ?_
    refine vv_sub [0, 1, 2, 3, 4] (L2 := [(0, .ref b), (1, .ref (a_F 0)), (2, .ref (a_M 0)), (3, .ref ao), (4, .int i)]) rfl ?_
    exact k (u.2.2.2.2.2.2.2.2.2.2.2.2.1) (u.2.2.2.2.2.2.2.2.2.2.2.2.2.1) (u.2.2.2.2.2.2.2.2.2.2.2.2.2.2) (u.1) (u.2.1) (u.2.2.1) (u.2.2.2.1) A_T (u.2.2.2.2.1) (u.2.2.2.2.2.1) (u.2.2.2.2.2.2.1) A_X (u.2.2.2.2.2.2.2.1) A_Y (u.2.2.2.2.2.2.2.2.1) (u.2.2.2.2.2.2.2.2.2.1) (u.2.2.2.2.2.2.2.2.2.2.1) (u.2.2.2.2.2.2.2.2.2.2.2.1) (w.1) (w.2) g3

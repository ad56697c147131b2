set_option maxHeartbeats 4000000 in
set_option maxRecDepth 100000 in
theorem c_give_tail (E : Ev) (m : Mem) (j : Nat) (S : PS) (d : Nat) (hj : j < 6) (hI : Inv m) (hS : InvS kC S) (hd : d < 8) (a g ts : Int) (h1 : 0 ≤ ts ∧ ts ≤ S 11 d) (h2 : 0 ≤ g - ts ∧ g - ts ≤ S 12 d) : T E 2 mX1_give 70 [some (rf E 10 j 0), some (.int (iI (d : Int))), some (.long (lI a)), none, some (.long (lI g)), none, some (.long (lI ts)), none] [] (hp E (wrC m j S)) (fun r' h' => r' = some (.long (lI g)) ∧ h' = hp E (wrC m j (giveP S d ts (g - ts) (giveW S d (giveT S d ts (g - ts)))))) := by
  refine T.aload_n dX1_give_70 rfl ?_
  refine T.mget (v := rf E 11 j 0) dX1_give_71 fo_X1_32 (ok10 (by omega)) rfl rfl ?_
  refine T.iload_n dX1_give_74 rfl ?_
  refine T.dup2 dX1_give_75 ?_
  refine T.aL (z := S 11 d) (x := d) dX1_give_76 (ok11 (by omega)) (fun _ => rfl) rfl (by omega) (wrC_c rfl) ?_
  have q1 : 0 ≤ S 11 d ∧ S 11 d ≤ 99990000 := hS 11 d rfl
  refine T.lload dX1_give_77 rfl ?_
  refine T.lsub dX1_give_79 ?_
  refine T.clst (x := d) dX1_give_80 rfl (ok11 (by omega)) (fun _ => rfl) rfl (by omega) ?_
  refine T.aload_n dX1_give_81 rfl ?_
  refine T.mget (v := rf E 12 j 0) dX1_give_82 fo_X1_36 (ok10 (by omega)) rfl rfl ?_
  refine T.iload_n dX1_give_85 rfl ?_
  refine T.dup2 dX1_give_86 ?_
  refine T.aL (z := S 12 d) (x := d) dX1_give_87 (ok12 (by omega)) (fun _ => rfl) rfl (by omega) ((wrC_c rfl).trans (by simp [upT])) ?_
  have q2 : 0 ≤ S 12 d ∧ S 12 d ≤ 4000000000 := hS 12 d rfl
  refine T.lload dX1_give_88 rfl ?_
  refine T.lload dX1_give_90 rfl ?_
  refine T.lsub dX1_give_92 ?_
  refine T.lsub dX1_give_93 ?_
  refine T.clst (x := d) dX1_give_94 rfl (ok12 (by omega)) (fun _ => rfl) rfl (by omega) ?_
  refine T.aload_n dX1_give_95 rfl ?_
  refine T.mget (v := rf E 18 j 0) dX1_give_96 fo_X1_56 (ok10 (by omega)) rfl rfl ?_
  refine T.iload_n dX1_give_99 rfl ?_
  refine T.dup2 dX1_give_100 ?_
  refine T.aL (z := S 18 d) (x := d) dX1_give_101 (ok18 (by omega)) (fun _ => rfl) rfl (by omega) ((wrC_c rfl).trans (by simp [upT])) ?_
  refine T.lload dX1_give_102 rfl ?_
  refine T.ladd dX1_give_104 ?_
  refine T.clst (x := d) dX1_give_105 rfl (ok18 (by omega)) (fun _ => rfl) rfl (by omega) ?_
  refine T.aload_n dX1_give_106 rfl ?_
  refine T.mget (v := rf E 19 j 0) dX1_give_107 fo_X1_59 (ok10 (by omega)) rfl rfl ?_
  refine T.iload_n dX1_give_110 rfl ?_
  refine T.dup2 dX1_give_111 ?_
  refine T.aL (z := S 19 d) (x := d) dX1_give_112 (ok19 (by omega)) (fun _ => rfl) rfl (by omega) ((wrC_c rfl).trans (by simp [upT])) ?_
  refine T.lload dX1_give_113 rfl ?_
  refine T.lload dX1_give_115 rfl ?_
  refine T.lsub dX1_give_117 ?_
  refine T.ladd dX1_give_118 ?_
  refine T.clst (x := d) dX1_give_119 rfl (ok19 (by omega)) (fun _ => rfl) rfl (by omega) ?_
  refine T.aload_n dX1_give_120 rfl ?_
  refine T.mget (v := rf E 13 j 0) dX1_give_121 fo_X1_39 (ok10 (by omega)) rfl rfl ?_
  refine T.iload_n dX1_give_124 rfl ?_
  refine T.aload_n dX1_give_125 rfl ?_
  refine T.gI (z := S 10 2) dX1_give_126 fo_X1_25 (ok10 (by omega)) rfl rfl ((wrC_c rfl).trans (by simp [upT])) ?_
  have q3 : 0 ≤ S 10 2 ∧ S 10 2 ≤ 299 := hS 10 2 rfl
  refine T.cist (x := d) dX1_give_129 rfl (ok13 (by omega)) (fun _ => rfl) rfl (by omega) ?_
  refine T.aload_n dX1_give_130 rfl ?_
  refine T.mget (v := rf E 16 j 0) dX1_give_131 fo_X1_49 (ok10 (by omega)) rfl rfl ?_
  refine T.iload_n dX1_give_134 rfl ?_
  refine T.aZ (z := S 16 d) (x := d) dX1_give_135 (ok16 (by omega)) (fun _ => rfl) rfl (by omega) ((wrC_c rfl).trans (by simp [upT])) ?_
  have q4 : 0 ≤ S 16 d ∧ S 16 d ≤ 1 := hS 16 d rfl
  refine T.if_eq 159 dX1_give_136 (by unfold rg; omega) (fun c5 => ?_) (fun c5 => ?_)
  · refine T.aload_n dX1_give_159 rfl ?_
    refine T.mget (v := rf E 11 j 0) dX1_give_160 fo_X1_32 (ok10 (by omega)) rfl rfl ?_
    refine T.iload_n dX1_give_163 rfl ?_
    refine T.aL (z := (S 11 d) - ts) (x := d) dX1_give_164 (ok11 (by omega)) (fun _ => rfl) rfl (by omega) ((wrC_c rfl).trans (by simp [upT])) ?_
    refine T.aload_n dX1_give_165 rfl ?_
    refine T.mget (v := rf E 12 j 0) dX1_give_166 fo_X1_36 (ok10 (by omega)) rfl rfl ?_
    refine T.iload_n dX1_give_169 rfl ?_
    refine T.aL (z := (S 12 d) - (g - ts)) (x := d) dX1_give_170 (ok12 (by omega)) (fun _ => rfl) rfl (by omega) ((wrC_c rfl).trans (by simp [upT])) ?_
    refine T.ladd dX1_give_171 ?_
    refine T.lconst0 dX1_give_172 ?_
    refine T.lcmp_ne 187 dX1_give_173 dX1_give_174 (by unfold rl; omega) (by unfold rl; omega) (fun c6 => ?_) (fun c6 => ?_)
    · refine T.lload dX1_give_187 rfl ?_
      exact T.lret dX1_give_189 ⟨rfl, by rw [show giveP S d ts (g - ts) (giveW S d (giveT S d ts (g - ts))) = (upT (upT (upT (upT (upT S 11 d ((S 11 d) - ts)) 12 d ((S 12 d) - (g - ts))) 18 d ((S 18 d) + ts)) 19 d ((S 19 d) + (g - ts))) 13 d (S 10 2)) from by unfold giveP giveW; rw [if_neg (by omega), if_neg (by omega)]; rfl]⟩
    · refine T.aload_n dX1_give_177 rfl ?_
      refine T.mget (v := rf E 14 j 0) dX1_give_178 fo_X1_43 (ok10 (by omega)) rfl rfl ?_
      refine T.iload_n dX1_give_181 rfl ?_
      refine T.aload_n dX1_give_182 rfl ?_
      refine T.gI (z := S 10 2) dX1_give_183 fo_X1_25 (ok10 (by omega)) rfl rfl ((wrC_c rfl).trans (by simp [upT])) ?_
      refine T.cist (x := d) dX1_give_186 rfl (ok14 (by omega)) (fun _ => rfl) rfl (by omega) ?_
      refine T.lload dX1_give_187 rfl ?_
      exact T.lret dX1_give_189 ⟨rfl, by rw [show giveP S d ts (g - ts) (giveW S d (giveT S d ts (g - ts))) = (upT (upT (upT (upT (upT (upT S 11 d ((S 11 d) - ts)) 12 d ((S 12 d) - (g - ts))) 18 d ((S 18 d) + ts)) 19 d ((S 19 d) + (g - ts))) 13 d (S 10 2)) 14 d (S 10 2)) from by unfold giveP giveW; rw [if_pos (by omega), if_neg (by omega)]; rfl]⟩
  · refine T.aload_n dX1_give_139 rfl ?_
    refine T.mget (v := rf E 15 j 0) dX1_give_140 fo_X1_46 (ok10 (by omega)) rfl rfl ?_
    refine T.iload_n dX1_give_143 rfl ?_
    refine T.aI (z := S 15 d) (x := d) dX1_give_144 (ok15 (by omega)) (fun _ => rfl) rfl (by omega) ((wrC_c rfl).trans (by simp [upT])) ?_
    have q7 : -1 ≤ S 15 d ∧ S 15 d ≤ 299 := hS 15 d rfl
    refine T.iconst dX1_give_145 ?_
    refine T.icmp_ne 159 dX1_give_146 (by unfold rg; omega) (by unfold rg; omega) (fun c8 => ?_) (fun c8 => ?_)
    · refine T.aload_n dX1_give_159 rfl ?_
      refine T.mget (v := rf E 11 j 0) dX1_give_160 fo_X1_32 (ok10 (by omega)) rfl rfl ?_
      refine T.iload_n dX1_give_163 rfl ?_
      refine T.aL (z := (S 11 d) - ts) (x := d) dX1_give_164 (ok11 (by omega)) (fun _ => rfl) rfl (by omega) ((wrC_c rfl).trans (by simp [upT])) ?_
      refine T.aload_n dX1_give_165 rfl ?_
      refine T.mget (v := rf E 12 j 0) dX1_give_166 fo_X1_36 (ok10 (by omega)) rfl rfl ?_
      refine T.iload_n dX1_give_169 rfl ?_
      refine T.aL (z := (S 12 d) - (g - ts)) (x := d) dX1_give_170 (ok12 (by omega)) (fun _ => rfl) rfl (by omega) ((wrC_c rfl).trans (by simp [upT])) ?_
      refine T.ladd dX1_give_171 ?_
      refine T.lconst0 dX1_give_172 ?_
      refine T.lcmp_ne 187 dX1_give_173 dX1_give_174 (by unfold rl; omega) (by unfold rl; omega) (fun c9 => ?_) (fun c9 => ?_)
      · refine T.lload dX1_give_187 rfl ?_
        exact T.lret dX1_give_189 ⟨rfl, by rw [show giveP S d ts (g - ts) (giveW S d (giveT S d ts (g - ts))) = (upT (upT (upT (upT (upT S 11 d ((S 11 d) - ts)) 12 d ((S 12 d) - (g - ts))) 18 d ((S 18 d) + ts)) 19 d ((S 19 d) + (g - ts))) 13 d (S 10 2)) from by unfold giveP giveW; rw [if_neg (by omega), if_neg (by omega)]; rfl]⟩
      · refine T.aload_n dX1_give_177 rfl ?_
        refine T.mget (v := rf E 14 j 0) dX1_give_178 fo_X1_43 (ok10 (by omega)) rfl rfl ?_
        refine T.iload_n dX1_give_181 rfl ?_
        refine T.aload_n dX1_give_182 rfl ?_
        refine T.gI (z := S 10 2) dX1_give_183 fo_X1_25 (ok10 (by omega)) rfl rfl ((wrC_c rfl).trans (by simp [upT])) ?_
        refine T.cist (x := d) dX1_give_186 rfl (ok14 (by omega)) (fun _ => rfl) rfl (by omega) ?_
        refine T.lload dX1_give_187 rfl ?_
        exact T.lret dX1_give_189 ⟨rfl, by rw [show giveP S d ts (g - ts) (giveW S d (giveT S d ts (g - ts))) = (upT (upT (upT (upT (upT (upT S 11 d ((S 11 d) - ts)) 12 d ((S 12 d) - (g - ts))) 18 d ((S 18 d) + ts)) 19 d ((S 19 d) + (g - ts))) 13 d (S 10 2)) 14 d (S 10 2)) from by unfold giveP giveW; rw [if_pos (by omega), if_neg (by omega)]; rfl]⟩
    · refine T.aload_n dX1_give_149 rfl ?_
      refine T.mget (v := rf E 15 j 0) dX1_give_150 fo_X1_46 (ok10 (by omega)) rfl rfl ?_
      refine T.iload_n dX1_give_153 rfl ?_
      refine T.aload_n dX1_give_154 rfl ?_
      refine T.gI (z := S 10 2) dX1_give_155 fo_X1_25 (ok10 (by omega)) rfl rfl ((wrC_c rfl).trans (by simp [upT])) ?_
      refine T.cist (x := d) dX1_give_158 rfl (ok15 (by omega)) (fun _ => rfl) rfl (by omega) ?_
      refine T.aload_n dX1_give_159 rfl ?_
      refine T.mget (v := rf E 11 j 0) dX1_give_160 fo_X1_32 (ok10 (by omega)) rfl rfl ?_
      refine T.iload_n dX1_give_163 rfl ?_
      refine T.aL (z := (S 11 d) - ts) (x := d) dX1_give_164 (ok11 (by omega)) (fun _ => rfl) rfl (by omega) ((wrC_c rfl).trans (by simp [upT])) ?_
      refine T.aload_n dX1_give_165 rfl ?_
      refine T.mget (v := rf E 12 j 0) dX1_give_166 fo_X1_36 (ok10 (by omega)) rfl rfl ?_
      refine T.iload_n dX1_give_169 rfl ?_
      refine T.aL (z := (S 12 d) - (g - ts)) (x := d) dX1_give_170 (ok12 (by omega)) (fun _ => rfl) rfl (by omega) ((wrC_c rfl).trans (by simp [upT])) ?_
      refine T.ladd dX1_give_171 ?_
      refine T.lconst0 dX1_give_172 ?_
      refine T.lcmp_ne 187 dX1_give_173 dX1_give_174 (by unfold rl; omega) (by unfold rl; omega) (fun c10 => ?_) (fun c10 => ?_)
      · refine T.lload dX1_give_187 rfl ?_
        exact T.lret dX1_give_189 ⟨rfl, by rw [show giveP S d ts (g - ts) (giveW S d (giveT S d ts (g - ts))) = (upT (upT (upT (upT (upT (upT S 11 d ((S 11 d) - ts)) 12 d ((S 12 d) - (g - ts))) 18 d ((S 18 d) + ts)) 19 d ((S 19 d) + (g - ts))) 13 d (S 10 2)) 15 d (S 10 2)) from by unfold giveP giveW; rw [if_neg (by omega), if_pos (by omega)]; rfl]⟩
      · refine T.aload_n dX1_give_177 rfl ?_
        refine T.mget (v := rf E 14 j 0) dX1_give_178 fo_X1_43 (ok10 (by omega)) rfl rfl ?_
        refine T.iload_n dX1_give_181 rfl ?_
        refine T.aload_n dX1_give_182 rfl ?_
        refine T.gI (z := S 10 2) dX1_give_183 fo_X1_25 (ok10 (by omega)) rfl rfl ((wrC_c rfl).trans (by simp [upT])) ?_
        refine T.cist (x := d) dX1_give_186 rfl (ok14 (by omega)) (fun _ => rfl) rfl (by omega) ?_
        refine T.lload dX1_give_187 rfl ?_
        exact T.lret dX1_give_189 ⟨rfl, by rw [show giveP S d ts (g - ts) (giveW S d (giveT S d ts (g - ts))) = (upT (upT (upT (upT (upT (upT (upT S 11 d ((S 11 d) - ts)) 12 d ((S 12 d) - (g - ts))) 18 d ((S 18 d) + ts)) 19 d ((S 19 d) + (g - ts))) 13 d (S 10 2)) 15 d (S 10 2)) 14 d (S 10 2)) from by unfold giveP giveW; rw [if_pos (by omega), if_pos (by omega)]; rfl]⟩
set_option maxHeartbeats 4000000 in
set_option maxRecDepth 100000 in
theorem c_give (E : Ev) (m : Mem) (j : Nat) (S : PS) (d : Nat) (a : Int) (hj : j < 6) (hI : Inv m) (hS : InvS kC S) (hd : d < 8) (ha : -9000000000000000000 ≤ a ∧ a ≤ 9000000000000000000) : CT E 2 mX1_give [rf E 10 j 0, .int (iI (d : Int)), .long (lI a)] (hp E (wrC m j S)) (some (.long (lI (giveR S d a)))) (hp E (wrC m j (giveS (lw m (16 + j)) S d a))) := by
  refine CT.go okX1_give (Nat.le_of_ble_eq_true rfl) ?_
  show T E 2 mX1_give 0 [some (rf E 10 j 0), some (.int (iI (d : Int))), some (.long (lI a)), none, none, none, none, none] [] (hp E (wrC m j S)) _
  refine T.lload_n dX1_give_0 rfl ?_
  refine T.aload_n dX1_give_1 rfl ?_
  refine T.mget (v := rf E 11 j 0) dX1_give_2 fo_X1_32 (ok10 (by omega)) rfl rfl ?_
  refine T.iload_n dX1_give_5 rfl ?_
  refine T.aL (z := S 11 d) (x := d) dX1_give_6 (ok11 (by omega)) (fun _ => rfl) rfl (by omega) (wrC_c rfl) ?_
  have q1 : 0 ≤ S 11 d ∧ S 11 d ≤ 99990000 := hS 11 d rfl
  refine T.aload_n dX1_give_7 rfl ?_
  refine T.mget (v := rf E 12 j 0) dX1_give_8 fo_X1_36 (ok10 (by omega)) rfl rfl ?_
  refine T.iload_n dX1_give_11 rfl ?_
  refine T.aL (z := S 12 d) (x := d) dX1_give_12 (ok12 (by omega)) (fun _ => rfl) rfl (by omega) (wrC_c rfl) ?_
  have q2 : 0 ≤ S 12 d ∧ S 12 d ≤ 4000000000 := hS 12 d rfl
  refine T.ladd dX1_give_13 ?_
  refine T.lmin dX1_give_14 lln_X1_217 (by unfold rl; omega) (by unfold rl; omega) (by decide) (Nat.le_of_ble_eq_true rfl) ?_
  refine T.lstore (ls' := [some (rf E 10 j 0), some (.int (iI (d : Int))), some (.long (lI a)), none, some (.long (lI (min a ((S 11 d) + (S 12 d))))), none, none, none]) dX1_give_17 rfl ?_
  refine T.lload dX1_give_19 rfl ?_
  refine T.lconst0 dX1_give_21 ?_
  refine T.lcmp_gt 28 dX1_give_22 dX1_give_23 (by unfold rl; omega) (by unfold rl; omega) (fun c3 => ?_) (fun c3 => ?_)
  · refine T.aload_n dX1_give_28 rfl ?_
    refine T.mget (v := rf E 8 (16 + j) 0) dX1_give_29 fo_X1_21 (ok10 (by omega)) rfl rfl ?_
    refine T.bipush dX1_give_32 ?_
    refine T.cV1 (As := [.int (iI 115)]) (st := []) dX1_give_34 lk_X1_160 (show CT E 1 mX3_has _ _ (some (.int (iI (bZ (hasB (lw m (16 + j)) 115))))) _ from c_has E (wrC m j S) (16 + j) 115 (by omega) (by decide) (hI.wrC hS)) (ok8 (by omega)) rfl rfl (by decide) rfl rfl (Nat.le_of_ble_eq_true rfl) ?_
    refine T.ifB_eq 54 dX1_give_37 (fun c4 => ?_) (fun c4 => ?_)
    · refine T.lload dX1_give_54 rfl ?_
      refine T.lload dX1_give_56 rfl ?_
      refine T.aload_n dX1_give_58 rfl ?_
      refine T.mget (v := rf E 12 j 0) dX1_give_59 fo_X1_36 (ok10 (by omega)) rfl rfl ?_
      refine T.iload_n dX1_give_62 rfl ?_
      refine T.aL (z := S 12 d) (x := d) dX1_give_63 (ok12 (by omega)) (fun _ => rfl) rfl (by omega) (wrC_c rfl) ?_
      refine T.lmin dX1_give_64 lln_X1_217 (by unfold rl; omega) (by unfold rl; omega) (by decide) (Nat.le_of_ble_eq_true rfl) ?_
      refine T.lsub dX1_give_67 ?_
      refine T.lstore (ls' := [some (rf E 10 j 0), some (.int (iI (d : Int))), some (.long (lI a)), none, some (.long (lI (min a ((S 11 d) + (S 12 d))))), none, some (.long (lI ((min a ((S 11 d) + (S 12 d))) - (min (min a ((S 11 d) + (S 12 d))) (S 12 d))))), none]) dX1_give_68 rfl ?_
      have g1 : ¬ gvn S d a ≤ 0 := by unfold gvn; omega
      have g2 : gvS (lw m (16 + j)) S d (gvn S d a) = (min a ((S 11 d) + (S 12 d))) - (min (min a ((S 11 d) + (S 12 d))) (S 12 d)) := if_neg (by assumption)
      rw [show giveR S d a = min a (S 11 d + S 12 d) from if_neg g1, show giveS (lw m (16 + j)) S d a = giveP S d ((min a ((S 11 d) + (S 12 d))) - (min (min a ((S 11 d) + (S 12 d))) (S 12 d))) (min a (S 11 d + S 12 d) - ((min a ((S 11 d) + (S 12 d))) - (min (min a ((S 11 d) + (S 12 d))) (S 12 d)))) (giveW S d (giveT S d ((min a ((S 11 d) + (S 12 d))) - (min (min a ((S 11 d) + (S 12 d))) (S 12 d))) (min a (S 11 d + S 12 d) - ((min a ((S 11 d) + (S 12 d))) - (min (min a ((S 11 d) + (S 12 d))) (S 12 d)))))) from by unfold giveS; rw [if_neg g1, g2]; rfl]
      exact c_give_tail E m j S d hj hI hS hd a _ _ (by omega) (by omega)
    · refine T.lload dX1_give_40 rfl ?_
      refine T.aload_n dX1_give_42 rfl ?_
      refine T.mget (v := rf E 11 j 0) dX1_give_43 fo_X1_32 (ok10 (by omega)) rfl rfl ?_
      refine T.iload_n dX1_give_46 rfl ?_
      refine T.aL (z := S 11 d) (x := d) dX1_give_47 (ok11 (by omega)) (fun _ => rfl) rfl (by omega) (wrC_c rfl) ?_
      refine T.lmin dX1_give_48 lln_X1_217 (by unfold rl; omega) (by unfold rl; omega) (by decide) (Nat.le_of_ble_eq_true rfl) ?_
      refine T.goto 68 dX1_give_51 ?_
      refine T.lstore (ls' := [some (rf E 10 j 0), some (.int (iI (d : Int))), some (.long (lI a)), none, some (.long (lI (min a ((S 11 d) + (S 12 d))))), none, some (.long (lI (min (min a ((S 11 d) + (S 12 d))) (S 11 d)))), none]) dX1_give_68 rfl ?_
      have g1 : ¬ gvn S d a ≤ 0 := by unfold gvn; omega
      have g2 : gvS (lw m (16 + j)) S d (gvn S d a) = min (min a ((S 11 d) + (S 12 d))) (S 11 d) := if_pos (by assumption)
      rw [show giveR S d a = min a (S 11 d + S 12 d) from if_neg g1, show giveS (lw m (16 + j)) S d a = giveP S d (min (min a ((S 11 d) + (S 12 d))) (S 11 d)) (min a (S 11 d + S 12 d) - (min (min a ((S 11 d) + (S 12 d))) (S 11 d))) (giveW S d (giveT S d (min (min a ((S 11 d) + (S 12 d))) (S 11 d)) (min a (S 11 d + S 12 d) - (min (min a ((S 11 d) + (S 12 d))) (S 11 d))))) from by unfold giveS; rw [if_neg g1, g2]; rfl]
      exact c_give_tail E m j S d hj hI hS hd a _ _ (by omega) (by omega)
  · refine T.lconst0 dX1_give_26 ?_
    have g1 : gvn S d a ≤ 0 := by unfold gvn; omega
    exact T.lret dX1_give_27 ⟨by unfold giveR; rw [if_pos g1], by unfold giveS; rw [if_pos g1]⟩
theorem deadL_k {β S : PS} {k : Nat} (h : k ≠ 16) : ∀ n, deadL β S n k = S k
  | 0 => rfl
  | n + 1 => by
    funext x
    show upT (deadL β S n) 16 n _ k x = _
    rw [upT_k h, deadL_k h n]
set_option maxHeartbeats 4000000 in
set_option maxRecDepth 100000 in
theorem c_findDead_loop (E : Ev) (m : Mem) (j : Nat) (S : PS) (hj : j < 6) (hI : Inv m) (hS : InvS kC S) (n : Nat) (hn : m 1 (2 + j) 0 1 = n) : ∀ (k : Nat) (d : Nat) (D : PS), n - d = k → d ≤ n → D = deadL (bk m (2 + j)) S d → InvS kC D → T E 2 mX1_findDead 2 [some (rf E 10 j 0), some (.int (iI (d : Int))), none, none] [] (hp E (wrC m j D)) (fun r' h' => r' = none ∧ h' = hp E (wrC m j (deadL (bk m (2 + j)) S n))) := by
  have hn8 : 0 ≤ m 1 (2 + j) 0 1 ∧ m 1 (2 + j) 0 1 ≤ 8 := hI 1 (2 + j) 0 1
  intro k
  induction k using Nat.strongRecOn with
  | ind k ih =>
    intro d D hk hdn hD hS2
    have e10 : D 10 = S 10 := by rw [hD, deadL_k (by decide)]
    have e11 : D 11 = S 11 := by rw [hD, deadL_k (by decide)]
    have e12 : D 12 = S 12 := by rw [hD, deadL_k (by decide)]
    have e13 : D 13 d = S 13 d := by rw [hD, deadL_k (by decide)]
    have e102 : D 10 2 = S 10 2 := by rw [e10]
    have hop : opS (bk m (2 + j)) D (d : Int) = opS (bk m (2 + j)) S (d : Int) := by unfold opS; rw [e10, e11, e12]
    refine T.iload_n dX1_findDead_2 rfl ?_
    refine T.aload_n dX1_findDead_3 rfl ?_
    refine T.mget (v := rf E 1 (2 + j) 0) dX1_findDead_4 fo_X1_12 (ok10 (by omega)) rfl rfl ?_
    refine T.gI (z := m 1 (2 + j) 0 1) dX1_findDead_7 fo_X1_77 (ok1 (by omega)) rfl rfl rfl ?_
    have q1 : 0 ≤ m 1 (2 + j) 0 1 ∧ m 1 (2 + j) 0 1 ≤ 8 := hI 1 (2 + j) 0 1
    refine T.icmp_ge 91 dX1_findDead_10 (by unfold rg; omega) (by unfold rg; omega) (fun c2 => ?_) (fun c2 => ?_)
    · exact T.vret dX1_findDead_91 ⟨rfl, by rw [hD, show d = n from by omega]⟩
    · refine T.aload_n dX1_findDead_13 rfl ?_
      refine T.mget (v := rf E 1 (2 + j) 0) dX1_findDead_14 fo_X1_12 (ok10 (by omega)) rfl rfl ?_
      refine T.mget (v := rf E 2 (2 + j) 0) dX1_findDead_17 fo_X1_80 (ok1 (by omega)) rfl rfl ?_
      refine T.iload_n dX1_findDead_20 rfl ?_
      refine T.mald (C := RX2) (x := d) dX1_findDead_21 (ok2 (by omega)) (fun _ => rfl) rfl rfl (by omega) ?_
      refine T.mget (v := rf E 6 (2 + j) d) dX1_findDead_22 fo_X1_143 (ok5 (by omega) (by omega)) rfl rfl ?_
      refine T.iconst dX1_findDead_25 ?_
      refine T.aI (z := m 6 (2 + j) d 3) (x := 3) dX1_findDead_26 (ok6 (by omega) (by omega)) (fun _ => rfl) rfl (by decide) rfl ?_
      have q3 : 0 ≤ m 6 (2 + j) d 3 ∧ m 6 (2 + j) d 3 ≤ 299 := hI 6 (2 + j) d 3
      refine T.istore_n (ls' := [some (rf E 10 j 0), some (.int (iI (d : Int))), some (.int (iI (m 6 (2 + j) d 3))), none]) dX1_findDead_27 rfl ?_
      refine T.aload_n dX1_findDead_28 rfl ?_
      refine T.mget (v := rf E 1 (2 + j) 0) dX1_findDead_29 fo_X1_12 (ok10 (by omega)) rfl rfl ?_
      refine T.mget (v := rf E 2 (2 + j) 0) dX1_findDead_32 fo_X1_80 (ok1 (by omega)) rfl rfl ?_
      refine T.iload_n dX1_findDead_35 rfl ?_
      refine T.mald (C := RX2) (x := d) dX1_findDead_36 (ok2 (by omega)) (fun _ => rfl) rfl rfl (by omega) ?_
      refine T.mget (v := rf E 6 (2 + j) d) dX1_findDead_37 fo_X1_143 (ok5 (by omega) (by omega)) rfl rfl ?_
      refine T.iconst dX1_findDead_40 ?_
      refine T.aI (z := m 6 (2 + j) d 5) (x := 5) dX1_findDead_41 (ok6 (by omega) (by omega)) (fun _ => rfl) rfl (by decide) rfl ?_
      have q4 : 0 ≤ m 6 (2 + j) d 5 ∧ m 6 (2 + j) d 5 ≤ 299 := hI 6 (2 + j) d 5
      refine T.aload_n dX1_findDead_42 rfl ?_
      refine T.mget (v := rf E 13 j 0) dX1_findDead_43 fo_X1_39 (ok10 (by omega)) rfl rfl ?_
      refine T.iload_n dX1_findDead_46 rfl ?_
      refine T.aI (z := D 13 d) (x := d) dX1_findDead_47 (ok13 (by omega)) (fun _ => rfl) rfl (by omega) (wrC_c rfl) ?_
      have q5 : -1 ≤ D 13 d ∧ D 13 d ≤ 299 := hS2 13 d rfl
      refine T.mmax dX1_findDead_48 lmx_X1_133 (by unfold rg; omega) (by unfold rg; omega) (by decide) (Nat.le_of_ble_eq_true rfl) ?_
      refine T.istore_n (ls' := [some (rf E 10 j 0), some (.int (iI (d : Int))), some (.int (iI (m 6 (2 + j) d 3))), some (.int (iI (max (m 6 (2 + j) d 5) (D 13 d))))]) dX1_findDead_51 rfl ?_
      refine T.aload_n dX1_findDead_52 rfl ?_
      refine T.mget (v := rf E 16 j 0) dX1_findDead_53 fo_X1_49 (ok10 (by omega)) rfl rfl ?_
      refine T.iload_n dX1_findDead_56 rfl ?_
      refine T.iload_n dX1_findDead_57 rfl ?_
      refine T.if_le 83 dX1_findDead_58 (by unfold rg; omega) (fun c6 => ?_) (fun c6 => ?_)
      · refine T.iconst dX1_findDead_83 ?_
        refine T.czst (x := d) dX1_findDead_84 rfl (ok16 (by omega)) (fun _ => rfl) rfl (by omega) (by omega) ?_
        refine T.iinc (ls' := [some (rf E 10 j 0), some (.int (iI ((d : Int) + 1))), some (.int (iI (m 6 (2 + j) d 3))), some (.int (iI (max (m 6 (2 + j) d 5) (D 13 d))))]) dX1_findDead_85 rfl rfl ?_
        refine T.goto 2 dX1_findDead_88 ?_
        refine T.fgt (ls' := [some (rf E 10 j 0), some (.int (iI ((d : Int) + 1))), none, none]) (by simp [lsw]) ?_
        refine ih (n - (d + 1)) (by omega) (d + 1) (upT D 16 d 0) rfl (by omega) ?_ (hS2.up ⟨by decide, by decide⟩)
        show _ = upT (deadL (bk m (2 + j)) S d) 16 d (deadF (bk m (2 + j)) S d)
        rw [← hD, show deadF (bk m (2 + j)) S d = 0 from bZ_f (show ¬ (0 < m 6 (2 + j) d 3 ∧ max (m 6 (2 + j) d 5) (S 13 d) + m 6 (2 + j) d 3 < S 10 2 ∧ opS (bk m (2 + j)) S (d : Int)) from fun ⟨z1, z2, z3⟩ => by first | omega | contradiction)]
      · refine T.aload_n dX1_findDead_61 rfl ?_
        refine T.gI (z := D 10 2) dX1_findDead_62 fo_X1_25 (ok10 (by omega)) rfl rfl (wrC_c rfl) ?_
        have q7 : 0 ≤ D 10 2 ∧ D 10 2 ≤ 299 := hS2 10 2 rfl
        refine T.iload_n dX1_findDead_65 rfl ?_
        refine T.iload_n dX1_findDead_66 rfl ?_
        refine T.iadd dX1_findDead_67 ?_
        refine T.icmp_le 83 dX1_findDead_68 (by unfold rg; omega) (by unfold rg; omega) (fun c8 => ?_) (fun c8 => ?_)
        · refine T.iconst dX1_findDead_83 ?_
          refine T.czst (x := d) dX1_findDead_84 rfl (ok16 (by omega)) (fun _ => rfl) rfl (by omega) (by omega) ?_
          refine T.iinc (ls' := [some (rf E 10 j 0), some (.int (iI ((d : Int) + 1))), some (.int (iI (m 6 (2 + j) d 3))), some (.int (iI (max (m 6 (2 + j) d 5) (D 13 d))))]) dX1_findDead_85 rfl rfl ?_
          refine T.goto 2 dX1_findDead_88 ?_
          refine T.fgt (ls' := [some (rf E 10 j 0), some (.int (iI ((d : Int) + 1))), none, none]) (by simp [lsw]) ?_
          refine ih (n - (d + 1)) (by omega) (d + 1) (upT D 16 d 0) rfl (by omega) ?_ (hS2.up ⟨by decide, by decide⟩)
          show _ = upT (deadL (bk m (2 + j)) S d) 16 d (deadF (bk m (2 + j)) S d)
          rw [← hD, show deadF (bk m (2 + j)) S d = 0 from bZ_f (show ¬ (0 < m 6 (2 + j) d 3 ∧ max (m 6 (2 + j) d 5) (S 13 d) + m 6 (2 + j) d 3 < S 10 2 ∧ opS (bk m (2 + j)) S (d : Int)) from fun ⟨z1, z2, z3⟩ => by first | omega | contradiction)]
        · refine T.aload_n dX1_findDead_71 rfl ?_
          refine T.iload_n dX1_findDead_72 rfl ?_
          refine T.cV1 (As := [.int (iI (d : Int))]) (st := [.int (iI (d : Int)), rf E 16 j 0]) dX1_findDead_73 lk_X1_156 (by have h0 := c_isOpen E m j D (d := (d : Int)) hj hI hS2 (by unfold rg; omega); rw [hop] at h0; exact h0) (ok10 (by omega)) rfl rfl (by decide) rfl rfl (Nat.le_of_ble_eq_true rfl) ?_
          refine T.ifB_eq 83 dX1_findDead_76 (fun c9 => ?_) (fun c9 => ?_)
          · refine T.iconst dX1_findDead_83 ?_
            refine T.czst (x := d) dX1_findDead_84 rfl (ok16 (by omega)) (fun _ => rfl) rfl (by omega) (by omega) ?_
            refine T.iinc (ls' := [some (rf E 10 j 0), some (.int (iI ((d : Int) + 1))), some (.int (iI (m 6 (2 + j) d 3))), some (.int (iI (max (m 6 (2 + j) d 5) (D 13 d))))]) dX1_findDead_85 rfl rfl ?_
            refine T.goto 2 dX1_findDead_88 ?_
            refine T.fgt (ls' := [some (rf E 10 j 0), some (.int (iI ((d : Int) + 1))), none, none]) (by simp [lsw]) ?_
            refine ih (n - (d + 1)) (by omega) (d + 1) (upT D 16 d 0) rfl (by omega) ?_ (hS2.up ⟨by decide, by decide⟩)
            show _ = upT (deadL (bk m (2 + j)) S d) 16 d (deadF (bk m (2 + j)) S d)
            rw [← hD, show deadF (bk m (2 + j)) S d = 0 from bZ_f (show ¬ (0 < m 6 (2 + j) d 3 ∧ max (m 6 (2 + j) d 5) (S 13 d) + m 6 (2 + j) d 3 < S 10 2 ∧ opS (bk m (2 + j)) S (d : Int)) from fun ⟨z1, z2, z3⟩ => by first | omega | contradiction)]
          · refine T.iconst dX1_findDead_79 ?_
            refine T.goto 84 dX1_findDead_80 ?_
            refine T.czst (x := d) dX1_findDead_84 rfl (ok16 (by omega)) (fun _ => rfl) rfl (by omega) (by omega) ?_
            refine T.iinc (ls' := [some (rf E 10 j 0), some (.int (iI ((d : Int) + 1))), some (.int (iI (m 6 (2 + j) d 3))), some (.int (iI (max (m 6 (2 + j) d 5) (D 13 d))))]) dX1_findDead_85 rfl rfl ?_
            refine T.goto 2 dX1_findDead_88 ?_
            refine T.fgt (ls' := [some (rf E 10 j 0), some (.int (iI ((d : Int) + 1))), none, none]) (by simp [lsw]) ?_
            refine ih (n - (d + 1)) (by omega) (d + 1) (upT D 16 d 1) rfl (by omega) ?_ (hS2.up ⟨by decide, by decide⟩)
            show _ = upT (deadL (bk m (2 + j)) S d) 16 d (deadF (bk m (2 + j)) S d)
            rw [← hD, show deadF (bk m (2 + j)) S d = 1 from bZ_t (show 0 < m 6 (2 + j) d 3 ∧ max (m 6 (2 + j) d 5) (S 13 d) + m 6 (2 + j) d 3 < S 10 2 ∧ opS (bk m (2 + j)) S (d : Int) from ⟨by omega, by omega, by assumption⟩)]
set_option maxHeartbeats 4000000 in
set_option maxRecDepth 100000 in
theorem c_findDead (E : Ev) (m : Mem) (j : Nat) (S : PS) (hj : j < 6) (hI : Inv m) (hS : InvS kC S) : CT E 2 mX1_findDead [rf E 10 j 0] (hp E (wrC m j S)) (none) (hp E (wrC m j (deadS (bk m (2 + j)) S))) := by
  refine CT.go okX1_findDead (Nat.le_of_ble_eq_true rfl) ?_
  show T E 2 mX1_findDead 0 [some (rf E 10 j 0), none, none, none] [] (hp E (wrC m j S)) _
  have hn8 : 0 ≤ m 1 (2 + j) 0 1 ∧ m 1 (2 + j) 0 1 ≤ 8 := hI 1 (2 + j) 0 1
  refine T.iconst dX1_findDead_0 ?_
  refine T.istore_n (ls' := [some (rf E 10 j 0), some (.int (iI 0)), none, none]) dX1_findDead_1 rfl ?_
  exact c_findDead_loop E m j S hj hI hS _ (Int.toNat_of_nonneg hn8.1).symm _ 0 S rfl (Nat.zero_le _) rfl hS
theorem sg_rg (x y : Int) : -1 ≤ sg x y ∧ sg x y ≤ 1 := by unfold sg; (repeat split) <;> omega
set_option maxHeartbeats 4000000 in
set_option maxRecDepth 100000 in
theorem c_cmp_loop (E : Ev) (m : Mem) (j : Nat) (S : PS) (a b : Nat) (hj : j < 6) (hI : Inv m) (hS : InvS kC S) (ha : a < 8) (hb : b < 8) (n : Nat) (hn : m 8 (16 + j) 0 1 = n) : ∀ (k : Nat) (i : Nat), n - i = k → i ≤ n → cmpN (bk m (2 + j)) (S 10 2) (fun x => S 11 x + S 12 x) ((lw m (16 + j)) 2) a b i = 0 → T E 2 mX1_compareByKeys 24 [some (rf E 10 j 0), some (.int (iI (a : Int))), some (.int (iI (b : Int))), some (rf E 5 (2 + j) a), some (rf E 5 (2 + j) b), some (.int (iI (i : Int))), none] [] (hp E (wrC m j S)) (fun r' h' => r' = some (.int (iI (cmpN (bk m (2 + j)) (S 10 2) (fun x => S 11 x + S 12 x) ((lw m (16 + j)) 2) a b n))) ∧ h' = (hp E (wrC m j S))) := by
  have hn8 : 0 ≤ m 8 (16 + j) 0 1 ∧ m 8 (16 + j) 0 1 ≤ 10 := hI 8 (16 + j) 0 1
  intro k
  induction k using Nat.strongRecOn with
  | ind k ih =>
    intro i hk hin h0
    refine T.iload dX1_compareByKeys_24 rfl ?_
    refine T.aload_n dX1_compareByKeys_26 rfl ?_
    refine T.mget (v := rf E 8 (16 + j) 0) dX1_compareByKeys_27 fo_X1_21 (ok10 (by omega)) rfl rfl ?_
    refine T.gI (z := m 8 (16 + j) 0 1) dX1_compareByKeys_30 fo_X1_166 (ok8 (by omega)) rfl rfl rfl ?_
    have q1 : 0 ≤ m 8 (16 + j) 0 1 ∧ m 8 (16 + j) 0 1 ≤ 10 := hI 8 (16 + j) 0 1
    refine T.icmp_ge 264 dX1_compareByKeys_33 (by unfold rg; omega) (by unfold rg; omega) (fun c2 => ?_) (fun c2 => ?_)
    · refine T.iconst dX1_compareByKeys_264 ?_
      exact T.iret dX1_compareByKeys_265 ⟨by rw [show 0 = cmpN (bk m (2 + j)) (S 10 2) (fun x => S 11 x + S 12 x) ((lw m (16 + j)) 2) a b n from by rw [show n = i from by omega]; exact h0.symm], rfl⟩
    · refine T.iconst dX1_compareByKeys_36 ?_
      refine T.istore (ls' := [some (rf E 10 j 0), some (.int (iI (a : Int))), some (.int (iI (b : Int))), some (rf E 5 (2 + j) a), some (rf E 5 (2 + j) b), some (.int (iI (i : Int))), some (.int (iI 0))]) dX1_compareByKeys_37 rfl ?_
      refine T.aload_n dX1_compareByKeys_39 rfl ?_
      refine T.mget (v := rf E 8 (16 + j) 0) dX1_compareByKeys_40 fo_X1_21 (ok10 (by omega)) rfl rfl ?_
      refine T.mget (v := rf E 9 (16 + j) 0) dX1_compareByKeys_43 fo_X1_169 (ok8 (by omega)) rfl rfl ?_
      refine T.iload dX1_compareByKeys_46 rfl ?_
      refine T.aI (z := m 9 (16 + j) 0 i) (x := i) dX1_compareByKeys_48 (ok9 (by omega)) (fun _ => rfl) rfl (by omega) rfl ?_
      have q3 : 0 ≤ m 9 (16 + j) 0 i ∧ m 9 (16 + j) 0 i ≤ 127 := hI 9 (16 + j) 0 i
      by_cases e100 : m 9 (16 + j) 0 i = 100
      · refine T.lookup 100 dX1_compareByKeys_49 (by unfold rg; omega) (by rw [e100] <;> rfl) ?_
        refine T.aload_n dX1_compareByKeys_100 rfl ?_
        refine T.mget (v := rf E 6 (2 + j) a) dX1_compareByKeys_101 fo_X1_143 (ok5 (by omega) (by omega)) rfl rfl ?_
        refine T.iconst dX1_compareByKeys_104 ?_
        refine T.aI (z := m 6 (2 + j) a 5) (x := 5) dX1_compareByKeys_105 (ok6 (by omega) (by omega)) (fun _ => rfl) rfl (by decide) rfl ?_
        have q4 : 0 ≤ m 6 (2 + j) a 5 ∧ m 6 (2 + j) a 5 ≤ 299 := hI 6 (2 + j) a 5
        refine T.aload_n dX1_compareByKeys_106 rfl ?_
        refine T.gI (z := S 10 2) dX1_compareByKeys_107 fo_X1_25 (ok10 (by omega)) rfl rfl (wrC_c rfl) ?_
        have q5 : 0 ≤ S 10 2 ∧ S 10 2 ≤ 299 := hS 10 2 rfl
        refine T.icmp_gt 117 dX1_compareByKeys_110 (by unfold rg; omega) (by unfold rg; omega) (fun c6 => ?_) (fun c6 => ?_)
        · refine T.iconst dX1_compareByKeys_117 ?_
          refine T.aload dX1_compareByKeys_118 rfl ?_
          refine T.mget (v := rf E 6 (2 + j) b) dX1_compareByKeys_120 fo_X1_143 (ok5 (by omega) (by omega)) rfl rfl ?_
          refine T.iconst dX1_compareByKeys_123 ?_
          refine T.aI (z := m 6 (2 + j) b 5) (x := 5) dX1_compareByKeys_124 (ok6 (by omega) (by omega)) (fun _ => rfl) rfl (by decide) rfl ?_
          have q7 : 0 ≤ m 6 (2 + j) b 5 ∧ m 6 (2 + j) b 5 ≤ 299 := hI 6 (2 + j) b 5
          refine T.aload_n dX1_compareByKeys_125 rfl ?_
          refine T.gI (z := S 10 2) dX1_compareByKeys_126 fo_X1_25 (ok10 (by omega)) rfl rfl (wrC_c rfl) ?_
          refine T.icmp_gt 136 dX1_compareByKeys_129 (by unfold rg; omega) (by unfold rg; omega) (fun c8 => ?_) (fun c8 => ?_)
          · refine T.iconst dX1_compareByKeys_136 ?_
            refine T.cS1 (As := [.int (iI 0), .int (iI 0)]) (st := []) dX1_compareByKeys_137 lk_X1_172 (c_firstIf E _ (by omega) (by omega)) (by decide) rfl rfl (Nat.le_of_ble_eq_true rfl) ?_
            have z9 := sg_rg 0 0
            refine T.istore (ls' := [some (rf E 10 j 0), some (.int (iI (a : Int))), some (.int (iI (b : Int))), some (rf E 5 (2 + j) a), some (rf E 5 (2 + j) b), some (.int (iI (i : Int))), some (.int (iI (sg 0 0)))]) dX1_compareByKeys_140 rfl ?_
            refine T.goto 250 dX1_compareByKeys_142 ?_
            refine T.iload dX1_compareByKeys_250 rfl ?_
            refine T.if_eq 258 dX1_compareByKeys_252 (by unfold rg; omega) (fun c10 => ?_) (fun c10 => ?_)
            · refine T.iinc (ls' := [some (rf E 10 j 0), some (.int (iI (a : Int))), some (.int (iI (b : Int))), some (rf E 5 (2 + j) a), some (rf E 5 (2 + j) b), some (.int (iI ((i : Int) + 1))), some (.int (iI (sg 0 0)))]) dX1_compareByKeys_258 rfl rfl ?_
              refine T.goto 24 dX1_compareByKeys_261 ?_
              refine T.fgt (ls' := [some (rf E 10 j 0), some (.int (iI (a : Int))), some (.int (iI (b : Int))), some (rf E 5 (2 + j) a), some (rf E 5 (2 + j) b), some (.int (iI ((i : Int) + 1))), none]) (by simp [lsw]) ?_
              have hz : sg (keyV (bk m (2 + j)) (S 10 2) (fun x => S 11 x + S 12 x) (m 9 (16 + j) 0 i) a) (keyV (bk m (2 + j)) (S 10 2) (fun x => S 11 x + S 12 x) (m 9 (16 + j) 0 i) b) = sg 0 0 := by
                rw [e100]
                show sg (if m 6 (2 + j) a 5 ≤ S 10 2 then 0 else 1) (if m 6 (2 + j) b 5 ≤ S 10 2 then 0 else 1) = sg 0 0
                unfold sg
                (repeat split) <;> omega
              exact ih (n - (i + 1)) (by omega) (i + 1) rfl (by omega) (by show (if cmpN (bk m (2 + j)) (S 10 2) (fun x => S 11 x + S 12 x) ((lw m (16 + j)) 2) a b i = 0 then _ else _) = 0; rw [if_pos h0]; exact hz.trans (by omega))
            · refine T.iload dX1_compareByKeys_255 rfl ?_
              have hz : sg (keyV (bk m (2 + j)) (S 10 2) (fun x => S 11 x + S 12 x) (m 9 (16 + j) 0 i) a) (keyV (bk m (2 + j)) (S 10 2) (fun x => S 11 x + S 12 x) (m 9 (16 + j) 0 i) b) = sg 0 0 := by
                rw [e100]
                show sg (if m 6 (2 + j) a 5 ≤ S 10 2 then 0 else 1) (if m 6 (2 + j) b 5 ≤ S 10 2 then 0 else 1) = sg 0 0
                unfold sg
                (repeat split) <;> omega
              exact T.iret dX1_compareByKeys_257 ⟨by rw [cmpN_stop h0 hz (by omega) n (by omega)], rfl⟩
          · refine T.iconst dX1_compareByKeys_132 ?_
            refine T.goto 137 dX1_compareByKeys_133 ?_
            refine T.cS1 (As := [.int (iI 0), .int (iI 1)]) (st := []) dX1_compareByKeys_137 lk_X1_172 (c_firstIf E _ (by omega) (by omega)) (by decide) rfl rfl (Nat.le_of_ble_eq_true rfl) ?_
            have z11 := sg_rg 1 0
            refine T.istore (ls' := [some (rf E 10 j 0), some (.int (iI (a : Int))), some (.int (iI (b : Int))), some (rf E 5 (2 + j) a), some (rf E 5 (2 + j) b), some (.int (iI (i : Int))), some (.int (iI (sg 1 0)))]) dX1_compareByKeys_140 rfl ?_
            refine T.goto 250 dX1_compareByKeys_142 ?_
            refine T.iload dX1_compareByKeys_250 rfl ?_
            refine T.if_eq 258 dX1_compareByKeys_252 (by unfold rg; omega) (fun c12 => ?_) (fun c12 => ?_)
            · refine T.iinc (ls' := [some (rf E 10 j 0), some (.int (iI (a : Int))), some (.int (iI (b : Int))), some (rf E 5 (2 + j) a), some (rf E 5 (2 + j) b), some (.int (iI ((i : Int) + 1))), some (.int (iI (sg 1 0)))]) dX1_compareByKeys_258 rfl rfl ?_
              refine T.goto 24 dX1_compareByKeys_261 ?_
              refine T.fgt (ls' := [some (rf E 10 j 0), some (.int (iI (a : Int))), some (.int (iI (b : Int))), some (rf E 5 (2 + j) a), some (rf E 5 (2 + j) b), some (.int (iI ((i : Int) + 1))), none]) (by simp [lsw]) ?_
              have hz : sg (keyV (bk m (2 + j)) (S 10 2) (fun x => S 11 x + S 12 x) (m 9 (16 + j) 0 i) a) (keyV (bk m (2 + j)) (S 10 2) (fun x => S 11 x + S 12 x) (m 9 (16 + j) 0 i) b) = sg 1 0 := by
                rw [e100]
                show sg (if m 6 (2 + j) a 5 ≤ S 10 2 then 0 else 1) (if m 6 (2 + j) b 5 ≤ S 10 2 then 0 else 1) = sg 1 0
                unfold sg
                (repeat split) <;> omega
              exact ih (n - (i + 1)) (by omega) (i + 1) rfl (by omega) (by show (if cmpN (bk m (2 + j)) (S 10 2) (fun x => S 11 x + S 12 x) ((lw m (16 + j)) 2) a b i = 0 then _ else _) = 0; rw [if_pos h0]; exact hz.trans (by omega))
            · refine T.iload dX1_compareByKeys_255 rfl ?_
              have hz : sg (keyV (bk m (2 + j)) (S 10 2) (fun x => S 11 x + S 12 x) (m 9 (16 + j) 0 i) a) (keyV (bk m (2 + j)) (S 10 2) (fun x => S 11 x + S 12 x) (m 9 (16 + j) 0 i) b) = sg 1 0 := by
                rw [e100]
                show sg (if m 6 (2 + j) a 5 ≤ S 10 2 then 0 else 1) (if m 6 (2 + j) b 5 ≤ S 10 2 then 0 else 1) = sg 1 0
                unfold sg
                (repeat split) <;> omega
              exact T.iret dX1_compareByKeys_257 ⟨by rw [cmpN_stop h0 hz (by omega) n (by omega)], rfl⟩
        · refine T.iconst dX1_compareByKeys_113 ?_
          refine T.goto 118 dX1_compareByKeys_114 ?_
          refine T.aload dX1_compareByKeys_118 rfl ?_
          refine T.mget (v := rf E 6 (2 + j) b) dX1_compareByKeys_120 fo_X1_143 (ok5 (by omega) (by omega)) rfl rfl ?_
          refine T.iconst dX1_compareByKeys_123 ?_
          refine T.aI (z := m 6 (2 + j) b 5) (x := 5) dX1_compareByKeys_124 (ok6 (by omega) (by omega)) (fun _ => rfl) rfl (by decide) rfl ?_
          have q13 : 0 ≤ m 6 (2 + j) b 5 ∧ m 6 (2 + j) b 5 ≤ 299 := hI 6 (2 + j) b 5
          refine T.aload_n dX1_compareByKeys_125 rfl ?_
          refine T.gI (z := S 10 2) dX1_compareByKeys_126 fo_X1_25 (ok10 (by omega)) rfl rfl (wrC_c rfl) ?_
          refine T.icmp_gt 136 dX1_compareByKeys_129 (by unfold rg; omega) (by unfold rg; omega) (fun c14 => ?_) (fun c14 => ?_)
          · refine T.iconst dX1_compareByKeys_136 ?_
            refine T.cS1 (As := [.int (iI 1), .int (iI 0)]) (st := []) dX1_compareByKeys_137 lk_X1_172 (c_firstIf E _ (by omega) (by omega)) (by decide) rfl rfl (Nat.le_of_ble_eq_true rfl) ?_
            have z15 := sg_rg 0 1
            refine T.istore (ls' := [some (rf E 10 j 0), some (.int (iI (a : Int))), some (.int (iI (b : Int))), some (rf E 5 (2 + j) a), some (rf E 5 (2 + j) b), some (.int (iI (i : Int))), some (.int (iI (sg 0 1)))]) dX1_compareByKeys_140 rfl ?_
            refine T.goto 250 dX1_compareByKeys_142 ?_
            refine T.iload dX1_compareByKeys_250 rfl ?_
            refine T.if_eq 258 dX1_compareByKeys_252 (by unfold rg; omega) (fun c16 => ?_) (fun c16 => ?_)
            · refine T.iinc (ls' := [some (rf E 10 j 0), some (.int (iI (a : Int))), some (.int (iI (b : Int))), some (rf E 5 (2 + j) a), some (rf E 5 (2 + j) b), some (.int (iI ((i : Int) + 1))), some (.int (iI (sg 0 1)))]) dX1_compareByKeys_258 rfl rfl ?_
              refine T.goto 24 dX1_compareByKeys_261 ?_
              refine T.fgt (ls' := [some (rf E 10 j 0), some (.int (iI (a : Int))), some (.int (iI (b : Int))), some (rf E 5 (2 + j) a), some (rf E 5 (2 + j) b), some (.int (iI ((i : Int) + 1))), none]) (by simp [lsw]) ?_
              have hz : sg (keyV (bk m (2 + j)) (S 10 2) (fun x => S 11 x + S 12 x) (m 9 (16 + j) 0 i) a) (keyV (bk m (2 + j)) (S 10 2) (fun x => S 11 x + S 12 x) (m 9 (16 + j) 0 i) b) = sg 0 1 := by
                rw [e100]
                show sg (if m 6 (2 + j) a 5 ≤ S 10 2 then 0 else 1) (if m 6 (2 + j) b 5 ≤ S 10 2 then 0 else 1) = sg 0 1
                unfold sg
                (repeat split) <;> omega
              exact ih (n - (i + 1)) (by omega) (i + 1) rfl (by omega) (by show (if cmpN (bk m (2 + j)) (S 10 2) (fun x => S 11 x + S 12 x) ((lw m (16 + j)) 2) a b i = 0 then _ else _) = 0; rw [if_pos h0]; exact hz.trans (by omega))
            · refine T.iload dX1_compareByKeys_255 rfl ?_
              have hz : sg (keyV (bk m (2 + j)) (S 10 2) (fun x => S 11 x + S 12 x) (m 9 (16 + j) 0 i) a) (keyV (bk m (2 + j)) (S 10 2) (fun x => S 11 x + S 12 x) (m 9 (16 + j) 0 i) b) = sg 0 1 := by
                rw [e100]
                show sg (if m 6 (2 + j) a 5 ≤ S 10 2 then 0 else 1) (if m 6 (2 + j) b 5 ≤ S 10 2 then 0 else 1) = sg 0 1
                unfold sg
                (repeat split) <;> omega
              exact T.iret dX1_compareByKeys_257 ⟨by rw [cmpN_stop h0 hz (by omega) n (by omega)], rfl⟩
          · refine T.iconst dX1_compareByKeys_132 ?_
            refine T.goto 137 dX1_compareByKeys_133 ?_
            refine T.cS1 (As := [.int (iI 1), .int (iI 1)]) (st := []) dX1_compareByKeys_137 lk_X1_172 (c_firstIf E _ (by omega) (by omega)) (by decide) rfl rfl (Nat.le_of_ble_eq_true rfl) ?_
            have z17 := sg_rg 1 1
            refine T.istore (ls' := [some (rf E 10 j 0), some (.int (iI (a : Int))), some (.int (iI (b : Int))), some (rf E 5 (2 + j) a), some (rf E 5 (2 + j) b), some (.int (iI (i : Int))), some (.int (iI (sg 1 1)))]) dX1_compareByKeys_140 rfl ?_
            refine T.goto 250 dX1_compareByKeys_142 ?_
            refine T.iload dX1_compareByKeys_250 rfl ?_
            refine T.if_eq 258 dX1_compareByKeys_252 (by unfold rg; omega) (fun c18 => ?_) (fun c18 => ?_)
            · refine T.iinc (ls' := [some (rf E 10 j 0), some (.int (iI (a : Int))), some (.int (iI (b : Int))), some (rf E 5 (2 + j) a), some (rf E 5 (2 + j) b), some (.int (iI ((i : Int) + 1))), some (.int (iI (sg 1 1)))]) dX1_compareByKeys_258 rfl rfl ?_
              refine T.goto 24 dX1_compareByKeys_261 ?_
              refine T.fgt (ls' := [some (rf E 10 j 0), some (.int (iI (a : Int))), some (.int (iI (b : Int))), some (rf E 5 (2 + j) a), some (rf E 5 (2 + j) b), some (.int (iI ((i : Int) + 1))), none]) (by simp [lsw]) ?_
              have hz : sg (keyV (bk m (2 + j)) (S 10 2) (fun x => S 11 x + S 12 x) (m 9 (16 + j) 0 i) a) (keyV (bk m (2 + j)) (S 10 2) (fun x => S 11 x + S 12 x) (m 9 (16 + j) 0 i) b) = sg 1 1 := by
                rw [e100]
                show sg (if m 6 (2 + j) a 5 ≤ S 10 2 then 0 else 1) (if m 6 (2 + j) b 5 ≤ S 10 2 then 0 else 1) = sg 1 1
                unfold sg
                (repeat split) <;> omega
              exact ih (n - (i + 1)) (by omega) (i + 1) rfl (by omega) (by show (if cmpN (bk m (2 + j)) (S 10 2) (fun x => S 11 x + S 12 x) ((lw m (16 + j)) 2) a b i = 0 then _ else _) = 0; rw [if_pos h0]; exact hz.trans (by omega))
            · refine T.iload dX1_compareByKeys_255 rfl ?_
              have hz : sg (keyV (bk m (2 + j)) (S 10 2) (fun x => S 11 x + S 12 x) (m 9 (16 + j) 0 i) a) (keyV (bk m (2 + j)) (S 10 2) (fun x => S 11 x + S 12 x) (m 9 (16 + j) 0 i) b) = sg 1 1 := by
                rw [e100]
                show sg (if m 6 (2 + j) a 5 ≤ S 10 2 then 0 else 1) (if m 6 (2 + j) b 5 ≤ S 10 2 then 0 else 1) = sg 1 1
                unfold sg
                (repeat split) <;> omega
              exact T.iret dX1_compareByKeys_257 ⟨by rw [cmpN_stop h0 hz (by omega) n (by omega)], rfl⟩
      by_cases e104 : m 9 (16 + j) 0 i = 104
      · refine T.lookup 145 dX1_compareByKeys_49 (by unfold rg; omega) (by rw [e104] <;> rfl) ?_
        refine T.aload dX1_compareByKeys_145 rfl ?_
        refine T.mget (v := rf E 6 (2 + j) b) dX1_compareByKeys_147 fo_X1_143 (ok5 (by omega) (by omega)) rfl rfl ?_
        refine T.iconst dX1_compareByKeys_150 ?_
        refine T.aI (z := m 6 (2 + j) b 4) (x := 4) dX1_compareByKeys_151 (ok6 (by omega) (by omega)) (fun _ => rfl) rfl (by decide) rfl ?_
        have q19 : 0 ≤ m 6 (2 + j) b 4 ∧ m 6 (2 + j) b 4 ≤ 99 := hI 6 (2 + j) b 4
        refine T.aload_n dX1_compareByKeys_152 rfl ?_
        refine T.mget (v := rf E 6 (2 + j) a) dX1_compareByKeys_153 fo_X1_143 (ok5 (by omega) (by omega)) rfl rfl ?_
        refine T.iconst dX1_compareByKeys_156 ?_
        refine T.aI (z := m 6 (2 + j) a 4) (x := 4) dX1_compareByKeys_157 (ok6 (by omega) (by omega)) (fun _ => rfl) rfl (by decide) rfl ?_
        have q20 : 0 ≤ m 6 (2 + j) a 4 ∧ m 6 (2 + j) a 4 ≤ 99 := hI 6 (2 + j) a 4
        refine T.cS1 (As := [.int (iI (m 6 (2 + j) b 4)), .int (iI (m 6 (2 + j) a 4))]) (st := []) dX1_compareByKeys_158 lk_X1_176 (c_cmpi E _ (by unfold rg; omega) (by unfold rg; omega)) (by decide) rfl rfl (Nat.le_of_ble_eq_true rfl) ?_
        have z21 := sg_rg (m 6 (2 + j) b 4) (m 6 (2 + j) a 4)
        refine T.istore (ls' := [some (rf E 10 j 0), some (.int (iI (a : Int))), some (.int (iI (b : Int))), some (rf E 5 (2 + j) a), some (rf E 5 (2 + j) b), some (.int (iI (i : Int))), some (.int (iI (sg (m 6 (2 + j) b 4) (m 6 (2 + j) a 4))))]) dX1_compareByKeys_161 rfl ?_
        refine T.goto 250 dX1_compareByKeys_163 ?_
        refine T.iload dX1_compareByKeys_250 rfl ?_
        refine T.if_eq 258 dX1_compareByKeys_252 (by unfold rg; omega) (fun c22 => ?_) (fun c22 => ?_)
        · refine T.iinc (ls' := [some (rf E 10 j 0), some (.int (iI (a : Int))), some (.int (iI (b : Int))), some (rf E 5 (2 + j) a), some (rf E 5 (2 + j) b), some (.int (iI ((i : Int) + 1))), some (.int (iI (sg (m 6 (2 + j) b 4) (m 6 (2 + j) a 4))))]) dX1_compareByKeys_258 rfl rfl ?_
          refine T.goto 24 dX1_compareByKeys_261 ?_
          refine T.fgt (ls' := [some (rf E 10 j 0), some (.int (iI (a : Int))), some (.int (iI (b : Int))), some (rf E 5 (2 + j) a), some (rf E 5 (2 + j) b), some (.int (iI ((i : Int) + 1))), none]) (by simp [lsw]) ?_
          have hz : sg (keyV (bk m (2 + j)) (S 10 2) (fun x => S 11 x + S 12 x) (m 9 (16 + j) 0 i) a) (keyV (bk m (2 + j)) (S 10 2) (fun x => S 11 x + S 12 x) (m 9 (16 + j) 0 i) b) = sg (m 6 (2 + j) b 4) (m 6 (2 + j) a 4) := by
            rw [e104]
            show sg (- m 6 (2 + j) a 4) (- m 6 (2 + j) b 4) = sg (m 6 (2 + j) b 4) (m 6 (2 + j) a 4)
            unfold sg
            (repeat split) <;> omega
          exact ih (n - (i + 1)) (by omega) (i + 1) rfl (by omega) (by show (if cmpN (bk m (2 + j)) (S 10 2) (fun x => S 11 x + S 12 x) ((lw m (16 + j)) 2) a b i = 0 then _ else _) = 0; rw [if_pos h0]; exact hz.trans (by omega))
        · refine T.iload dX1_compareByKeys_255 rfl ?_
          have hz : sg (keyV (bk m (2 + j)) (S 10 2) (fun x => S 11 x + S 12 x) (m 9 (16 + j) 0 i) a) (keyV (bk m (2 + j)) (S 10 2) (fun x => S 11 x + S 12 x) (m 9 (16 + j) 0 i) b) = sg (m 6 (2 + j) b 4) (m 6 (2 + j) a 4) := by
            rw [e104]
            show sg (- m 6 (2 + j) a 4) (- m 6 (2 + j) b 4) = sg (m 6 (2 + j) b 4) (m 6 (2 + j) a 4)
            unfold sg
            (repeat split) <;> omega
          exact T.iret dX1_compareByKeys_257 ⟨by rw [cmpN_stop h0 hz (by omega) n (by omega)], rfl⟩
      by_cases e108 : m 9 (16 + j) 0 i = 108
      · refine T.lookup 216 dX1_compareByKeys_49 (by unfold rg; omega) (by rw [e108] <;> rfl) ?_
        refine T.aload_n dX1_compareByKeys_216 rfl ?_
        refine T.mget (v := rf E 11 j 0) dX1_compareByKeys_217 fo_X1_32 (ok10 (by omega)) rfl rfl ?_
        refine T.iload_n dX1_compareByKeys_220 rfl ?_
        refine T.aL (z := S 11 b) (x := b) dX1_compareByKeys_221 (ok11 (by omega)) (fun _ => rfl) rfl (by omega) (wrC_c rfl) ?_
        have q23 : 0 ≤ S 11 b ∧ S 11 b ≤ 99990000 := hS 11 b rfl
        refine T.aload_n dX1_compareByKeys_222 rfl ?_
        refine T.mget (v := rf E 12 j 0) dX1_compareByKeys_223 fo_X1_36 (ok10 (by omega)) rfl rfl ?_
        refine T.iload_n dX1_compareByKeys_226 rfl ?_
        refine T.aL (z := S 12 b) (x := b) dX1_compareByKeys_227 (ok12 (by omega)) (fun _ => rfl) rfl (by omega) (wrC_c rfl) ?_
        have q24 : 0 ≤ S 12 b ∧ S 12 b ≤ 4000000000 := hS 12 b rfl
        refine T.ladd dX1_compareByKeys_228 ?_
        refine T.aload_n dX1_compareByKeys_229 rfl ?_
        refine T.mget (v := rf E 11 j 0) dX1_compareByKeys_230 fo_X1_32 (ok10 (by omega)) rfl rfl ?_
        refine T.iload_n dX1_compareByKeys_233 rfl ?_
        refine T.aL (z := S 11 a) (x := a) dX1_compareByKeys_234 (ok11 (by omega)) (fun _ => rfl) rfl (by omega) (wrC_c rfl) ?_
        have q25 : 0 ≤ S 11 a ∧ S 11 a ≤ 99990000 := hS 11 a rfl
        refine T.aload_n dX1_compareByKeys_235 rfl ?_
        refine T.mget (v := rf E 12 j 0) dX1_compareByKeys_236 fo_X1_36 (ok10 (by omega)) rfl rfl ?_
        refine T.iload_n dX1_compareByKeys_239 rfl ?_
        refine T.aL (z := S 12 a) (x := a) dX1_compareByKeys_240 (ok12 (by omega)) (fun _ => rfl) rfl (by omega) (wrC_c rfl) ?_
        have q26 : 0 ≤ S 12 a ∧ S 12 a ≤ 4000000000 := hS 12 a rfl
        refine T.ladd dX1_compareByKeys_241 ?_
        refine T.cS1 (As := [.long (lI ((S 11 b) + (S 12 b))), .long (lI ((S 11 a) + (S 12 a)))]) (st := []) dX1_compareByKeys_242 lk_X1_185 (c_cmpl E _ (by unfold rl; omega) (by unfold rl; omega)) (by decide) rfl rfl (Nat.le_of_ble_eq_true rfl) ?_
        have z27 := sg_rg ((S 11 b) + (S 12 b)) ((S 11 a) + (S 12 a))
        refine T.istore (ls' := [some (rf E 10 j 0), some (.int (iI (a : Int))), some (.int (iI (b : Int))), some (rf E 5 (2 + j) a), some (rf E 5 (2 + j) b), some (.int (iI (i : Int))), some (.int (iI (sg ((S 11 b) + (S 12 b)) ((S 11 a) + (S 12 a)))))]) dX1_compareByKeys_245 rfl ?_
        refine T.goto 250 dX1_compareByKeys_247 ?_
        refine T.iload dX1_compareByKeys_250 rfl ?_
        refine T.if_eq 258 dX1_compareByKeys_252 (by unfold rg; omega) (fun c28 => ?_) (fun c28 => ?_)
        · refine T.iinc (ls' := [some (rf E 10 j 0), some (.int (iI (a : Int))), some (.int (iI (b : Int))), some (rf E 5 (2 + j) a), some (rf E 5 (2 + j) b), some (.int (iI ((i : Int) + 1))), some (.int (iI (sg ((S 11 b) + (S 12 b)) ((S 11 a) + (S 12 a)))))]) dX1_compareByKeys_258 rfl rfl ?_
          refine T.goto 24 dX1_compareByKeys_261 ?_
          refine T.fgt (ls' := [some (rf E 10 j 0), some (.int (iI (a : Int))), some (.int (iI (b : Int))), some (rf E 5 (2 + j) a), some (rf E 5 (2 + j) b), some (.int (iI ((i : Int) + 1))), none]) (by simp [lsw]) ?_
          have hz : sg (keyV (bk m (2 + j)) (S 10 2) (fun x => S 11 x + S 12 x) (m 9 (16 + j) 0 i) a) (keyV (bk m (2 + j)) (S 10 2) (fun x => S 11 x + S 12 x) (m 9 (16 + j) 0 i) b) = sg ((S 11 b) + (S 12 b)) ((S 11 a) + (S 12 a)) := by
            rw [e108]
            show sg (- (S 11 a + S 12 a)) (- (S 11 b + S 12 b)) = sg ((S 11 b) + (S 12 b)) ((S 11 a) + (S 12 a))
            unfold sg
            (repeat split) <;> omega
          exact ih (n - (i + 1)) (by omega) (i + 1) rfl (by omega) (by show (if cmpN (bk m (2 + j)) (S 10 2) (fun x => S 11 x + S 12 x) ((lw m (16 + j)) 2) a b i = 0 then _ else _) = 0; rw [if_pos h0]; exact hz.trans (by omega))
        · refine T.iload dX1_compareByKeys_255 rfl ?_
          have hz : sg (keyV (bk m (2 + j)) (S 10 2) (fun x => S 11 x + S 12 x) (m 9 (16 + j) 0 i) a) (keyV (bk m (2 + j)) (S 10 2) (fun x => S 11 x + S 12 x) (m 9 (16 + j) 0 i) b) = sg ((S 11 b) + (S 12 b)) ((S 11 a) + (S 12 a)) := by
            rw [e108]
            show sg (- (S 11 a + S 12 a)) (- (S 11 b + S 12 b)) = sg ((S 11 b) + (S 12 b)) ((S 11 a) + (S 12 a))
            unfold sg
            (repeat split) <;> omega
          exact T.iret dX1_compareByKeys_257 ⟨by rw [cmpN_stop h0 hz (by omega) n (by omega)], rfl⟩
      by_cases e111 : m 9 (16 + j) 0 i = 111
      · refine T.lookup 199 dX1_compareByKeys_49 (by unfold rg; omega) (by rw [e111] <;> rfl) ?_
        refine T.aload_n dX1_compareByKeys_199 rfl ?_
        refine T.gI (z := m 5 (2 + j) a 1) dX1_compareByKeys_200 fo_X1_130 (ok5 (by omega) (by omega)) rfl rfl rfl ?_
        have q29 : 0 ≤ m 5 (2 + j) a 1 ∧ m 5 (2 + j) a 1 ≤ 299 := hI 5 (2 + j) a 1
        refine T.aload dX1_compareByKeys_203 rfl ?_
        refine T.gI (z := m 5 (2 + j) b 1) dX1_compareByKeys_205 fo_X1_130 (ok5 (by omega) (by omega)) rfl rfl rfl ?_
        have q30 : 0 ≤ m 5 (2 + j) b 1 ∧ m 5 (2 + j) b 1 ≤ 299 := hI 5 (2 + j) b 1
        refine T.cS1 (As := [.int (iI (m 5 (2 + j) a 1)), .int (iI (m 5 (2 + j) b 1))]) (st := []) dX1_compareByKeys_208 lk_X1_176 (c_cmpi E _ (by unfold rg; omega) (by unfold rg; omega)) (by decide) rfl rfl (Nat.le_of_ble_eq_true rfl) ?_
        have z31 := sg_rg (m 5 (2 + j) a 1) (m 5 (2 + j) b 1)
        refine T.istore (ls' := [some (rf E 10 j 0), some (.int (iI (a : Int))), some (.int (iI (b : Int))), some (rf E 5 (2 + j) a), some (rf E 5 (2 + j) b), some (.int (iI (i : Int))), some (.int (iI (sg (m 5 (2 + j) a 1) (m 5 (2 + j) b 1))))]) dX1_compareByKeys_211 rfl ?_
        refine T.goto 250 dX1_compareByKeys_213 ?_
        refine T.iload dX1_compareByKeys_250 rfl ?_
        refine T.if_eq 258 dX1_compareByKeys_252 (by unfold rg; omega) (fun c32 => ?_) (fun c32 => ?_)
        · refine T.iinc (ls' := [some (rf E 10 j 0), some (.int (iI (a : Int))), some (.int (iI (b : Int))), some (rf E 5 (2 + j) a), some (rf E 5 (2 + j) b), some (.int (iI ((i : Int) + 1))), some (.int (iI (sg (m 5 (2 + j) a 1) (m 5 (2 + j) b 1))))]) dX1_compareByKeys_258 rfl rfl ?_
          refine T.goto 24 dX1_compareByKeys_261 ?_
          refine T.fgt (ls' := [some (rf E 10 j 0), some (.int (iI (a : Int))), some (.int (iI (b : Int))), some (rf E 5 (2 + j) a), some (rf E 5 (2 + j) b), some (.int (iI ((i : Int) + 1))), none]) (by simp [lsw]) ?_
          have hz : sg (keyV (bk m (2 + j)) (S 10 2) (fun x => S 11 x + S 12 x) (m 9 (16 + j) 0 i) a) (keyV (bk m (2 + j)) (S 10 2) (fun x => S 11 x + S 12 x) (m 9 (16 + j) 0 i) b) = sg (m 5 (2 + j) a 1) (m 5 (2 + j) b 1) := by
            rw [e111]
            show sg (m 5 (2 + j) a 1) (m 5 (2 + j) b 1) = sg (m 5 (2 + j) a 1) (m 5 (2 + j) b 1)
            unfold sg
            (repeat split) <;> omega
          exact ih (n - (i + 1)) (by omega) (i + 1) rfl (by omega) (by show (if cmpN (bk m (2 + j)) (S 10 2) (fun x => S 11 x + S 12 x) ((lw m (16 + j)) 2) a b i = 0 then _ else _) = 0; rw [if_pos h0]; exact hz.trans (by omega))
        · refine T.iload dX1_compareByKeys_255 rfl ?_
          have hz : sg (keyV (bk m (2 + j)) (S 10 2) (fun x => S 11 x + S 12 x) (m 9 (16 + j) 0 i) a) (keyV (bk m (2 + j)) (S 10 2) (fun x => S 11 x + S 12 x) (m 9 (16 + j) 0 i) b) = sg (m 5 (2 + j) a 1) (m 5 (2 + j) b 1) := by
            rw [e111]
            show sg (m 5 (2 + j) a 1) (m 5 (2 + j) b 1) = sg (m 5 (2 + j) a 1) (m 5 (2 + j) b 1)
            unfold sg
            (repeat split) <;> omega
          exact T.iret dX1_compareByKeys_257 ⟨by rw [cmpN_stop h0 hz (by omega) n (by omega)], rfl⟩
      by_cases e117 : m 9 (16 + j) 0 i = 117
      · refine T.lookup 166 dX1_compareByKeys_49 (by unfold rg; omega) (by rw [e117] <;> rfl) ?_
        refine T.aload_n dX1_compareByKeys_166 rfl ?_
        refine T.cV1 (As := []) (st := []) dX1_compareByKeys_167 lk_X1_181 (show CT E 1 mX2_isSecured _ _ (some (.int (iI (bZ (0 ≤ m 6 (2 + j) a 1 ∨ m 6 (2 + j) a 2 = 1))))) _ from c_isSecured E (wrC m j S) (2 + j) a (by omega) (by omega) (hI.wrC hS)) (ok5 (by omega) (by omega)) rfl rfl (by decide) rfl rfl (Nat.le_of_ble_eq_true rfl) ?_
        have zs33 : 0 ≤ m 6 (2 + j) a 2 ∧ m 6 (2 + j) a 2 ≤ 1 := hI 6 (2 + j) a 2
        refine T.ifB_ne 177 dX1_compareByKeys_170 (fun c34 => ?_) (fun c34 => ?_)
        · refine T.iconst dX1_compareByKeys_177 ?_
          refine T.aload dX1_compareByKeys_178 rfl ?_
          refine T.cV1 (As := []) (st := [.int (iI 0)]) dX1_compareByKeys_180 lk_X1_181 (show CT E 1 mX2_isSecured _ _ (some (.int (iI (bZ (0 ≤ m 6 (2 + j) b 1 ∨ m 6 (2 + j) b 2 = 1))))) _ from c_isSecured E (wrC m j S) (2 + j) b (by omega) (by omega) (hI.wrC hS)) (ok5 (by omega) (by omega)) rfl rfl (by decide) rfl rfl (Nat.le_of_ble_eq_true rfl) ?_
          have zs35 : 0 ≤ m 6 (2 + j) b 2 ∧ m 6 (2 + j) b 2 ≤ 1 := hI 6 (2 + j) b 2
          refine T.ifB_ne 190 dX1_compareByKeys_183 (fun c36 => ?_) (fun c36 => ?_)
          · refine T.iconst dX1_compareByKeys_190 ?_
            refine T.cS1 (As := [.int (iI 0), .int (iI 0)]) (st := []) dX1_compareByKeys_191 lk_X1_172 (c_firstIf E _ (by omega) (by omega)) (by decide) rfl rfl (Nat.le_of_ble_eq_true rfl) ?_
            have z37 := sg_rg 0 0
            refine T.istore (ls' := [some (rf E 10 j 0), some (.int (iI (a : Int))), some (.int (iI (b : Int))), some (rf E 5 (2 + j) a), some (rf E 5 (2 + j) b), some (.int (iI (i : Int))), some (.int (iI (sg 0 0)))]) dX1_compareByKeys_194 rfl ?_
            refine T.goto 250 dX1_compareByKeys_196 ?_
            refine T.iload dX1_compareByKeys_250 rfl ?_
            refine T.if_eq 258 dX1_compareByKeys_252 (by unfold rg; omega) (fun c38 => ?_) (fun c38 => ?_)
            · refine T.iinc (ls' := [some (rf E 10 j 0), some (.int (iI (a : Int))), some (.int (iI (b : Int))), some (rf E 5 (2 + j) a), some (rf E 5 (2 + j) b), some (.int (iI ((i : Int) + 1))), some (.int (iI (sg 0 0)))]) dX1_compareByKeys_258 rfl rfl ?_
              refine T.goto 24 dX1_compareByKeys_261 ?_
              refine T.fgt (ls' := [some (rf E 10 j 0), some (.int (iI (a : Int))), some (.int (iI (b : Int))), some (rf E 5 (2 + j) a), some (rf E 5 (2 + j) b), some (.int (iI ((i : Int) + 1))), none]) (by simp [lsw]) ?_
              have hz : sg (keyV (bk m (2 + j)) (S 10 2) (fun x => S 11 x + S 12 x) (m 9 (16 + j) 0 i) a) (keyV (bk m (2 + j)) (S 10 2) (fun x => S 11 x + S 12 x) (m 9 (16 + j) 0 i) b) = sg 0 0 := by
                rw [e117]
                show sg (if m 6 (2 + j) a 1 < 0 ∧ m 6 (2 + j) a 2 = 0 then 0 else 1) (if m 6 (2 + j) b 1 < 0 ∧ m 6 (2 + j) b 2 = 0 then 0 else 1) = sg 0 0
                unfold sg
                (repeat split) <;> omega
              exact ih (n - (i + 1)) (by omega) (i + 1) rfl (by omega) (by show (if cmpN (bk m (2 + j)) (S 10 2) (fun x => S 11 x + S 12 x) ((lw m (16 + j)) 2) a b i = 0 then _ else _) = 0; rw [if_pos h0]; exact hz.trans (by omega))
            · refine T.iload dX1_compareByKeys_255 rfl ?_
              have hz : sg (keyV (bk m (2 + j)) (S 10 2) (fun x => S 11 x + S 12 x) (m 9 (16 + j) 0 i) a) (keyV (bk m (2 + j)) (S 10 2) (fun x => S 11 x + S 12 x) (m 9 (16 + j) 0 i) b) = sg 0 0 := by
                rw [e117]
                show sg (if m 6 (2 + j) a 1 < 0 ∧ m 6 (2 + j) a 2 = 0 then 0 else 1) (if m 6 (2 + j) b 1 < 0 ∧ m 6 (2 + j) b 2 = 0 then 0 else 1) = sg 0 0
                unfold sg
                (repeat split) <;> omega
              exact T.iret dX1_compareByKeys_257 ⟨by rw [cmpN_stop h0 hz (by omega) n (by omega)], rfl⟩
          · refine T.iconst dX1_compareByKeys_186 ?_
            refine T.goto 191 dX1_compareByKeys_187 ?_
            refine T.cS1 (As := [.int (iI 0), .int (iI 1)]) (st := []) dX1_compareByKeys_191 lk_X1_172 (c_firstIf E _ (by omega) (by omega)) (by decide) rfl rfl (Nat.le_of_ble_eq_true rfl) ?_
            have z39 := sg_rg 1 0
            refine T.istore (ls' := [some (rf E 10 j 0), some (.int (iI (a : Int))), some (.int (iI (b : Int))), some (rf E 5 (2 + j) a), some (rf E 5 (2 + j) b), some (.int (iI (i : Int))), some (.int (iI (sg 1 0)))]) dX1_compareByKeys_194 rfl ?_
            refine T.goto 250 dX1_compareByKeys_196 ?_
            refine T.iload dX1_compareByKeys_250 rfl ?_
            refine T.if_eq 258 dX1_compareByKeys_252 (by unfold rg; omega) (fun c40 => ?_) (fun c40 => ?_)
            · refine T.iinc (ls' := [some (rf E 10 j 0), some (.int (iI (a : Int))), some (.int (iI (b : Int))), some (rf E 5 (2 + j) a), some (rf E 5 (2 + j) b), some (.int (iI ((i : Int) + 1))), some (.int (iI (sg 1 0)))]) dX1_compareByKeys_258 rfl rfl ?_
              refine T.goto 24 dX1_compareByKeys_261 ?_
              refine T.fgt (ls' := [some (rf E 10 j 0), some (.int (iI (a : Int))), some (.int (iI (b : Int))), some (rf E 5 (2 + j) a), some (rf E 5 (2 + j) b), some (.int (iI ((i : Int) + 1))), none]) (by simp [lsw]) ?_
              have hz : sg (keyV (bk m (2 + j)) (S 10 2) (fun x => S 11 x + S 12 x) (m 9 (16 + j) 0 i) a) (keyV (bk m (2 + j)) (S 10 2) (fun x => S 11 x + S 12 x) (m 9 (16 + j) 0 i) b) = sg 1 0 := by
                rw [e117]
                show sg (if m 6 (2 + j) a 1 < 0 ∧ m 6 (2 + j) a 2 = 0 then 0 else 1) (if m 6 (2 + j) b 1 < 0 ∧ m 6 (2 + j) b 2 = 0 then 0 else 1) = sg 1 0
                unfold sg
                (repeat split) <;> omega
              exact ih (n - (i + 1)) (by omega) (i + 1) rfl (by omega) (by show (if cmpN (bk m (2 + j)) (S 10 2) (fun x => S 11 x + S 12 x) ((lw m (16 + j)) 2) a b i = 0 then _ else _) = 0; rw [if_pos h0]; exact hz.trans (by omega))
            · refine T.iload dX1_compareByKeys_255 rfl ?_
              have hz : sg (keyV (bk m (2 + j)) (S 10 2) (fun x => S 11 x + S 12 x) (m 9 (16 + j) 0 i) a) (keyV (bk m (2 + j)) (S 10 2) (fun x => S 11 x + S 12 x) (m 9 (16 + j) 0 i) b) = sg 1 0 := by
                rw [e117]
                show sg (if m 6 (2 + j) a 1 < 0 ∧ m 6 (2 + j) a 2 = 0 then 0 else 1) (if m 6 (2 + j) b 1 < 0 ∧ m 6 (2 + j) b 2 = 0 then 0 else 1) = sg 1 0
                unfold sg
                (repeat split) <;> omega
              exact T.iret dX1_compareByKeys_257 ⟨by rw [cmpN_stop h0 hz (by omega) n (by omega)], rfl⟩
        · refine T.iconst dX1_compareByKeys_173 ?_
          refine T.goto 178 dX1_compareByKeys_174 ?_
          refine T.aload dX1_compareByKeys_178 rfl ?_
          refine T.cV1 (As := []) (st := [.int (iI 1)]) dX1_compareByKeys_180 lk_X1_181 (show CT E 1 mX2_isSecured _ _ (some (.int (iI (bZ (0 ≤ m 6 (2 + j) b 1 ∨ m 6 (2 + j) b 2 = 1))))) _ from c_isSecured E (wrC m j S) (2 + j) b (by omega) (by omega) (hI.wrC hS)) (ok5 (by omega) (by omega)) rfl rfl (by decide) rfl rfl (Nat.le_of_ble_eq_true rfl) ?_
          have zs41 : 0 ≤ m 6 (2 + j) b 2 ∧ m 6 (2 + j) b 2 ≤ 1 := hI 6 (2 + j) b 2
          refine T.ifB_ne 190 dX1_compareByKeys_183 (fun c42 => ?_) (fun c42 => ?_)
          · refine T.iconst dX1_compareByKeys_190 ?_
            refine T.cS1 (As := [.int (iI 1), .int (iI 0)]) (st := []) dX1_compareByKeys_191 lk_X1_172 (c_firstIf E _ (by omega) (by omega)) (by decide) rfl rfl (Nat.le_of_ble_eq_true rfl) ?_
            have z43 := sg_rg 0 1
            refine T.istore (ls' := [some (rf E 10 j 0), some (.int (iI (a : Int))), some (.int (iI (b : Int))), some (rf E 5 (2 + j) a), some (rf E 5 (2 + j) b), some (.int (iI (i : Int))), some (.int (iI (sg 0 1)))]) dX1_compareByKeys_194 rfl ?_
            refine T.goto 250 dX1_compareByKeys_196 ?_
            refine T.iload dX1_compareByKeys_250 rfl ?_
            refine T.if_eq 258 dX1_compareByKeys_252 (by unfold rg; omega) (fun c44 => ?_) (fun c44 => ?_)
            · refine T.iinc (ls' := [some (rf E 10 j 0), some (.int (iI (a : Int))), some (.int (iI (b : Int))), some (rf E 5 (2 + j) a), some (rf E 5 (2 + j) b), some (.int (iI ((i : Int) + 1))), some (.int (iI (sg 0 1)))]) dX1_compareByKeys_258 rfl rfl ?_
              refine T.goto 24 dX1_compareByKeys_261 ?_
              refine T.fgt (ls' := [some (rf E 10 j 0), some (.int (iI (a : Int))), some (.int (iI (b : Int))), some (rf E 5 (2 + j) a), some (rf E 5 (2 + j) b), some (.int (iI ((i : Int) + 1))), none]) (by simp [lsw]) ?_
              have hz : sg (keyV (bk m (2 + j)) (S 10 2) (fun x => S 11 x + S 12 x) (m 9 (16 + j) 0 i) a) (keyV (bk m (2 + j)) (S 10 2) (fun x => S 11 x + S 12 x) (m 9 (16 + j) 0 i) b) = sg 0 1 := by
                rw [e117]
                show sg (if m 6 (2 + j) a 1 < 0 ∧ m 6 (2 + j) a 2 = 0 then 0 else 1) (if m 6 (2 + j) b 1 < 0 ∧ m 6 (2 + j) b 2 = 0 then 0 else 1) = sg 0 1
                unfold sg
                (repeat split) <;> omega
              exact ih (n - (i + 1)) (by omega) (i + 1) rfl (by omega) (by show (if cmpN (bk m (2 + j)) (S 10 2) (fun x => S 11 x + S 12 x) ((lw m (16 + j)) 2) a b i = 0 then _ else _) = 0; rw [if_pos h0]; exact hz.trans (by omega))
            · refine T.iload dX1_compareByKeys_255 rfl ?_
              have hz : sg (keyV (bk m (2 + j)) (S 10 2) (fun x => S 11 x + S 12 x) (m 9 (16 + j) 0 i) a) (keyV (bk m (2 + j)) (S 10 2) (fun x => S 11 x + S 12 x) (m 9 (16 + j) 0 i) b) = sg 0 1 := by
                rw [e117]
                show sg (if m 6 (2 + j) a 1 < 0 ∧ m 6 (2 + j) a 2 = 0 then 0 else 1) (if m 6 (2 + j) b 1 < 0 ∧ m 6 (2 + j) b 2 = 0 then 0 else 1) = sg 0 1
                unfold sg
                (repeat split) <;> omega
              exact T.iret dX1_compareByKeys_257 ⟨by rw [cmpN_stop h0 hz (by omega) n (by omega)], rfl⟩
          · refine T.iconst dX1_compareByKeys_186 ?_
            refine T.goto 191 dX1_compareByKeys_187 ?_
            refine T.cS1 (As := [.int (iI 1), .int (iI 1)]) (st := []) dX1_compareByKeys_191 lk_X1_172 (c_firstIf E _ (by omega) (by omega)) (by decide) rfl rfl (Nat.le_of_ble_eq_true rfl) ?_
            have z45 := sg_rg 1 1
            refine T.istore (ls' := [some (rf E 10 j 0), some (.int (iI (a : Int))), some (.int (iI (b : Int))), some (rf E 5 (2 + j) a), some (rf E 5 (2 + j) b), some (.int (iI (i : Int))), some (.int (iI (sg 1 1)))]) dX1_compareByKeys_194 rfl ?_
            refine T.goto 250 dX1_compareByKeys_196 ?_
            refine T.iload dX1_compareByKeys_250 rfl ?_
            refine T.if_eq 258 dX1_compareByKeys_252 (by unfold rg; omega) (fun c46 => ?_) (fun c46 => ?_)
            · refine T.iinc (ls' := [some (rf E 10 j 0), some (.int (iI (a : Int))), some (.int (iI (b : Int))), some (rf E 5 (2 + j) a), some (rf E 5 (2 + j) b), some (.int (iI ((i : Int) + 1))), some (.int (iI (sg 1 1)))]) dX1_compareByKeys_258 rfl rfl ?_
              refine T.goto 24 dX1_compareByKeys_261 ?_
              refine T.fgt (ls' := [some (rf E 10 j 0), some (.int (iI (a : Int))), some (.int (iI (b : Int))), some (rf E 5 (2 + j) a), some (rf E 5 (2 + j) b), some (.int (iI ((i : Int) + 1))), none]) (by simp [lsw]) ?_
              have hz : sg (keyV (bk m (2 + j)) (S 10 2) (fun x => S 11 x + S 12 x) (m 9 (16 + j) 0 i) a) (keyV (bk m (2 + j)) (S 10 2) (fun x => S 11 x + S 12 x) (m 9 (16 + j) 0 i) b) = sg 1 1 := by
                rw [e117]
                show sg (if m 6 (2 + j) a 1 < 0 ∧ m 6 (2 + j) a 2 = 0 then 0 else 1) (if m 6 (2 + j) b 1 < 0 ∧ m 6 (2 + j) b 2 = 0 then 0 else 1) = sg 1 1
                unfold sg
                (repeat split) <;> omega
              exact ih (n - (i + 1)) (by omega) (i + 1) rfl (by omega) (by show (if cmpN (bk m (2 + j)) (S 10 2) (fun x => S 11 x + S 12 x) ((lw m (16 + j)) 2) a b i = 0 then _ else _) = 0; rw [if_pos h0]; exact hz.trans (by omega))
            · refine T.iload dX1_compareByKeys_255 rfl ?_
              have hz : sg (keyV (bk m (2 + j)) (S 10 2) (fun x => S 11 x + S 12 x) (m 9 (16 + j) 0 i) a) (keyV (bk m (2 + j)) (S 10 2) (fun x => S 11 x + S 12 x) (m 9 (16 + j) 0 i) b) = sg 1 1 := by
                rw [e117]
                show sg (if m 6 (2 + j) a 1 < 0 ∧ m 6 (2 + j) a 2 = 0 then 0 else 1) (if m 6 (2 + j) b 1 < 0 ∧ m 6 (2 + j) b 2 = 0 then 0 else 1) = sg 1 1
                unfold sg
                (repeat split) <;> omega
              exact T.iret dX1_compareByKeys_257 ⟨by rw [cmpN_stop h0 hz (by omega) n (by omega)], rfl⟩
      refine T.lookup 250 dX1_compareByKeys_49 (off := 201) (by unfold rg; omega) (by simp [Op.lookupswitch.offset]; (repeat split) <;> omega) ?_
      refine T.iload dX1_compareByKeys_250 rfl ?_
      refine T.if_eq 258 dX1_compareByKeys_252 (by unfold rg; omega) (fun c47 => ?_) (fun c47 => ?_)
      · refine T.iinc (ls' := [some (rf E 10 j 0), some (.int (iI (a : Int))), some (.int (iI (b : Int))), some (rf E 5 (2 + j) a), some (rf E 5 (2 + j) b), some (.int (iI ((i : Int) + 1))), some (.int (iI 0))]) dX1_compareByKeys_258 rfl rfl ?_
        refine T.goto 24 dX1_compareByKeys_261 ?_
        refine T.fgt (ls' := [some (rf E 10 j 0), some (.int (iI (a : Int))), some (.int (iI (b : Int))), some (rf E 5 (2 + j) a), some (rf E 5 (2 + j) b), some (.int (iI ((i : Int) + 1))), none]) (by simp [lsw]) ?_
        have hz : sg (keyV (bk m (2 + j)) (S 10 2) (fun x => S 11 x + S 12 x) (m 9 (16 + j) 0 i) a) (keyV (bk m (2 + j)) (S 10 2) (fun x => S 11 x + S 12 x) (m 9 (16 + j) 0 i) b) = 0 := by unfold keyV; simp only [e100, e104, e108, e111, e117, if_false]; rfl
        exact ih (n - (i + 1)) (by omega) (i + 1) rfl (by omega) (by show (if cmpN (bk m (2 + j)) (S 10 2) (fun x => S 11 x + S 12 x) ((lw m (16 + j)) 2) a b i = 0 then _ else _) = 0; rw [if_pos h0]; exact hz.trans (by omega))
      · refine T.iload dX1_compareByKeys_255 rfl ?_
        have hz : sg (keyV (bk m (2 + j)) (S 10 2) (fun x => S 11 x + S 12 x) (m 9 (16 + j) 0 i) a) (keyV (bk m (2 + j)) (S 10 2) (fun x => S 11 x + S 12 x) (m 9 (16 + j) 0 i) b) = 0 := by unfold keyV; simp only [e100, e104, e108, e111, e117, if_false]; rfl
        exact T.iret dX1_compareByKeys_257 ⟨by rw [cmpN_stop h0 hz (by omega) n (by omega)], rfl⟩
set_option maxHeartbeats 4000000 in
set_option maxRecDepth 100000 in
theorem c_cmp (E : Ev) (m : Mem) (j : Nat) (S : PS) (a b : Nat) (hj : j < 6) (hI : Inv m) (hS : InvS kC S) (ha : a < 8) (hb : b < 8) : CT E 2 mX1_compareByKeys [rf E 10 j 0, .int (iI (a : Int)), .int (iI (b : Int))] (hp E (wrC m j S)) (some (.int (iI (cmpS (bk m (2 + j)) (lw m (16 + j)) S a b)))) (hp E (wrC m j S)) := by
  refine CT.go okX1_compareByKeys (Nat.le_of_ble_eq_true rfl) ?_
  show T E 2 mX1_compareByKeys 0 [some (rf E 10 j 0), some (.int (iI (a : Int))), some (.int (iI (b : Int))), none, none, none, none] [] (hp E (wrC m j S)) _
  have hn8 : 0 ≤ m 8 (16 + j) 0 1 ∧ m 8 (16 + j) 0 1 ≤ 10 := hI 8 (16 + j) 0 1
  refine T.aload_n dX1_compareByKeys_0 rfl ?_
  refine T.mget (v := rf E 1 (2 + j) 0) dX1_compareByKeys_1 fo_X1_12 (ok10 (by omega)) rfl rfl ?_
  refine T.mget (v := rf E 2 (2 + j) 0) dX1_compareByKeys_4 fo_X1_80 (ok1 (by omega)) rfl rfl ?_
  refine T.iload_n dX1_compareByKeys_7 rfl ?_
  refine T.mald (C := RX2) (x := a) dX1_compareByKeys_8 (ok2 (by omega)) (fun _ => rfl) rfl rfl (by omega) ?_
  refine T.astore_n (ls' := [some (rf E 10 j 0), some (.int (iI (a : Int))), some (.int (iI (b : Int))), some (rf E 5 (2 + j) a), none, none, none]) dX1_compareByKeys_9 rfl ?_
  refine T.aload_n dX1_compareByKeys_10 rfl ?_
  refine T.mget (v := rf E 1 (2 + j) 0) dX1_compareByKeys_11 fo_X1_12 (ok10 (by omega)) rfl rfl ?_
  refine T.mget (v := rf E 2 (2 + j) 0) dX1_compareByKeys_14 fo_X1_80 (ok1 (by omega)) rfl rfl ?_
  refine T.iload_n dX1_compareByKeys_17 rfl ?_
  refine T.mald (C := RX2) (x := b) dX1_compareByKeys_18 (ok2 (by omega)) (fun _ => rfl) rfl rfl (by omega) ?_
  refine T.astore (ls' := [some (rf E 10 j 0), some (.int (iI (a : Int))), some (.int (iI (b : Int))), some (rf E 5 (2 + j) a), some (rf E 5 (2 + j) b), none, none]) dX1_compareByKeys_19 rfl ?_
  refine T.iconst dX1_compareByKeys_21 ?_
  refine T.istore (ls' := [some (rf E 10 j 0), some (.int (iI (a : Int))), some (.int (iI (b : Int))), some (rf E 5 (2 + j) a), some (rf E 5 (2 + j) b), some (.int (iI 0)), none]) dX1_compareByKeys_22 rfl ?_
  exact c_cmp_loop E m j S a b hj hI hS ha hb _ (Int.toNat_of_nonneg hn8.1).symm _ 0 rfl (Nat.zero_le _) rfl

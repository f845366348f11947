/-! single words of the common list -/
set_option maxRecDepth 20000 in
theorem w0 : (.initialized "LadderScanLaw" : Cond) ∈ CW := cw_in 0 rfl rfl
set_option maxRecDepth 20000 in
theorem w1 : (.initialized "LadderScan" : Cond) ∈ CW := cw_in 1 rfl rfl
set_option maxRecDepth 20000 in
theorem w2 : (.initialized "LadderScan$Memory" : Cond) ∈ CW := cw_in 2 rfl rfl
set_option maxRecDepth 20000 in
theorem w3 : (.initialized "LadderScan$Ladder" : Cond) ∈ CW := cw_in 3 rfl rfl
set_option maxRecDepth 20000 in
theorem w4 : (.initialized "LadderScan$Block" : Cond) ∈ CW := cw_in 4 rfl rfl
set_option maxRecDepth 20000 in
theorem w5 : (.initialized "LadderScanModel" : Cond) ∈ CW := cw_in 5 rfl rfl
set_option maxRecDepth 20000 in
theorem w6 : (.initialized "java/lang/Throwable" : Cond) ∈ CW := cw_in 6 rfl rfl
set_option maxRecDepth 20000 in
theorem w7 : (.initialized "java/lang/Exception" : Cond) ∈ CW := cw_in 7 rfl rfl
set_option maxRecDepth 20000 in
theorem w8 : (.initialized "java/lang/RuntimeException" : Cond) ∈ CW := cw_in 8 rfl rfl
set_option maxRecDepth 20000 in
theorem w9 : (.initialized "java/lang/IllegalArgumentException" : Cond) ∈ CW := cw_in 9 rfl rfl
set_option maxRecDepth 20000 in
theorem w10 : (.initialized "java/lang/IllegalStateException" : Cond) ∈ CW := cw_in 10 rfl rfl
set_option maxRecDepth 20000 in
theorem w11 : (.initialized "java/util/NoSuchElementException" : Cond) ∈ CW := cw_in 11 rfl rfl
set_option maxRecDepth 20000 in
theorem w12 : (.initialized "java/lang/UnsupportedOperationException" : Cond) ∈ CW := cw_in 12 rfl rfl
set_option maxRecDepth 20000 in
theorem w13 : (.initialized "java/lang/System" : Cond) ∈ CW := cw_in 13 rfl rfl
set_option maxRecDepth 20000 in
theorem w14 : (.initialized "java/lang/Math" : Cond) ∈ CW := cw_in 14 rfl rfl
set_option maxRecDepth 20000 in
theorem w15 : (.initialized "java/lang/ArithmeticException" : Cond) ∈ CW := cw_in 15 rfl rfl
set_option maxRecDepth 20000 in
theorem w16 : (.classLink "LadderScanLaw" 8 "LadderScan" : Cond) ∈ CW := cw_in 16 rfl rfl
set_option maxRecDepth 20000 in
theorem w17 : (.instantiable "LadderScan" 8 : Cond) ∈ CW := cw_in 17 rfl rfl
set_option maxRecDepth 20000 in
theorem w18 : (.methodLink "LadderScanLaw" 64 ⟨"LadderScan", "<init>", "()V"⟩ : Cond) ∈ CW := cw_in 18 rfl rfl
set_option maxRecDepth 20000 in
theorem w19 : (.instanceMethod ⟨"LadderScan", "<init>", "()V"⟩ : Cond) ∈ CW := cw_in 19 rfl rfl
set_option maxRecDepth 20000 in
theorem w21 : (.methodLink "LadderScan" 3 ⟨"java/lang/Object", "<init>", "()V"⟩ : Cond) ∈ CW := cw_in 21 rfl rfl
set_option maxRecDepth 20000 in
theorem w22 : (.instanceMethod ⟨"java/lang/Object", "<init>", "()V"⟩ : Cond) ∈ CW := cw_in 22 rfl rfl
set_option maxRecDepth 20000 in
theorem w23 : (.code ⟨"java/lang/Object", "<init>", "()V"⟩ object_method_1_code 1 none : Cond) ∈ CW := cw_in 23 rfl rfl
set_option maxRecDepth 20000 in
theorem w24 : (.classLink "LadderScan" 9 "LadderScan$Memory" : Cond) ∈ CW := cw_in 24 rfl rfl
set_option maxRecDepth 20000 in
theorem w25 : (.instantiable "LadderScan$Memory" 5 : Cond) ∈ CW := cw_in 25 rfl rfl
set_option maxRecDepth 20000 in
theorem w26 : (.methodLink "LadderScan" 11 ⟨"LadderScan$Memory", "<init>", "()V"⟩ : Cond) ∈ CW := cw_in 26 rfl rfl
set_option maxRecDepth 20000 in
theorem w27 : (.instanceMethod ⟨"LadderScan$Memory", "<init>", "()V"⟩ : Cond) ∈ CW := cw_in 27 rfl rfl
set_option maxRecDepth 20000 in
theorem w29 : (.methodLink "LadderScan$Memory" 3 ⟨"java/lang/Object", "<init>", "()V"⟩ : Cond) ∈ CW := cw_in 29 rfl rfl
set_option maxRecDepth 20000 in
theorem w30 : (.fieldLink "LadderScan$Memory" 9 "LadderScan$Memory" "bits" "[I" : Cond) ∈ CW := cw_in 30 rfl rfl
set_option maxRecDepth 20000 in
theorem w31 : (.fieldLink "LadderScan$Memory" 15 "LadderScan$Memory" "forces" "[I" : Cond) ∈ CW := cw_in 31 rfl rfl
set_option maxRecDepth 20000 in
theorem w32 : (.fieldLink "LadderScan" 140 "LadderScan$Memory" "forces" "[I" : Cond) ∈ CW := cw_in 32 rfl rfl
set_option maxRecDepth 20000 in
theorem w33 : (.fieldLink "LadderScan$Memory" 18 "LadderScan$Memory" "inputWires" "[I" : Cond) ∈ CW := cw_in 33 rfl rfl
set_option maxRecDepth 20000 in
theorem w34 : (.fieldLink "LadderScan" 124 "LadderScan$Memory" "inputWires" "[I" : Cond) ∈ CW := cw_in 34 rfl rfl
set_option maxRecDepth 20000 in
theorem w35 : (.fieldLink "LadderScan$Memory" 21 "LadderScan$Memory" "outputWires" "[I" : Cond) ∈ CW := cw_in 35 rfl rfl
set_option maxRecDepth 20000 in
theorem w36 : (.fieldLink "LadderScan" 159 "LadderScan$Memory" "outputWires" "[I" : Cond) ∈ CW := cw_in 36 rfl rfl
set_option maxRecDepth 20000 in
theorem w37 : (.fieldLink "LadderScan$Memory" 24 "LadderScan$Memory" "registers" "[I" : Cond) ∈ CW := cw_in 37 rfl rfl
set_option maxRecDepth 20000 in
theorem w38 : (.fieldLink "LadderScan$Block" 54 "LadderScan$Memory" "registers" "[I" : Cond) ∈ CW := cw_in 38 rfl rfl
set_option maxRecDepth 20000 in
theorem w39 : (.fieldLink "LadderScan" 134 "LadderScan$Memory" "registers" "[I" : Cond) ∈ CW := cw_in 39 rfl rfl
set_option maxRecDepth 20000 in
theorem w51 : (.arrayClass .int : Cond) ∈ CW := cw_in 51 rfl rfl
set_option maxRecDepth 20000 in
theorem w52 : (.classLink "LadderScan" 16 "LadderScan$Block" : Cond) ∈ CW := cw_in 52 rfl rfl
set_option maxRecDepth 20000 in
theorem w54 : (.classLink "LadderScan" 22 "LadderScan$Ladder" : Cond) ∈ CW := cw_in 54 rfl rfl
set_option maxRecDepth 20000 in
theorem w55 : (.instantiable "LadderScan$Ladder" 4 : Cond) ∈ CW := cw_in 55 rfl rfl
set_option maxRecDepth 20000 in
theorem w57 : (.instanceMethod ⟨"LadderScan$Ladder", "<init>", "()V"⟩ : Cond) ∈ CW := cw_in 57 rfl rfl
set_option maxRecDepth 20000 in
theorem w59 : (.methodLink "LadderScan$Ladder" 3 ⟨"java/lang/Object", "<init>", "()V"⟩ : Cond) ∈ CW := cw_in 59 rfl rfl
set_option maxRecDepth 20000 in
theorem w60 : (.fieldLink "LadderScan$Ladder" 9 "LadderScan$Ladder" "ops" "[I" : Cond) ∈ CW := cw_in 60 rfl rfl
set_option maxRecDepth 20000 in
theorem w61 : (.fieldLink "LadderScan" 195 "LadderScan$Ladder" "ops" "[I" : Cond) ∈ CW := cw_in 61 rfl rfl
set_option maxRecDepth 20000 in
theorem w62 : (.fieldLink "LadderScan$Ladder" 15 "LadderScan$Ladder" "operands" "[I" : Cond) ∈ CW := cw_in 62 rfl rfl
set_option maxRecDepth 20000 in
theorem w63 : (.fieldLink "LadderScan" 198 "LadderScan$Ladder" "operands" "[I" : Cond) ∈ CW := cw_in 63 rfl rfl
set_option maxRecDepth 20000 in
theorem w64 : (.fieldLink "LadderScan$Ladder" 18 "LadderScan$Ladder" "lengths" "[I" : Cond) ∈ CW := cw_in 64 rfl rfl
set_option maxRecDepth 20000 in
theorem w65 : (.fieldLink "LadderScan" 192 "LadderScan$Ladder" "lengths" "[I" : Cond) ∈ CW := cw_in 65 rfl rfl
set_option maxRecDepth 20000 in
theorem w66 : (.fieldLink "LadderScan$Ladder" 21 "LadderScan$Ladder" "depths" "[I" : Cond) ∈ CW := cw_in 66 rfl rfl
set_option maxRecDepth 20000 in
theorem w76 : (.instantiable "LadderScan$Block" 8 : Cond) ∈ CW := cw_in 76 rfl rfl
set_option maxRecDepth 20000 in
theorem w78 : (.instanceMethod ⟨"LadderScan$Block", "<init>", "()V"⟩ : Cond) ∈ CW := cw_in 78 rfl rfl
set_option maxRecDepth 20000 in
theorem w80 : (.methodLink "LadderScan$Block" 3 ⟨"java/lang/Object", "<init>", "()V"⟩ : Cond) ∈ CW := cw_in 80 rfl rfl
set_option maxRecDepth 20000 in
theorem w81 : (.fieldLink "LadderScan$Block" 9 "LadderScan$Block" "kind" "I" : Cond) ∈ CW := cw_in 81 rfl rfl
set_option maxRecDepth 20000 in
theorem w82 : (.fieldLink "LadderScan" 68 "LadderScan$Block" "kind" "I" : Cond) ∈ CW := cw_in 82 rfl rfl
set_option maxRecDepth 20000 in
theorem w83 : (.fieldLink "LadderScan$Block" 15 "LadderScan$Block" "p" "I" : Cond) ∈ CW := cw_in 83 rfl rfl
set_option maxRecDepth 20000 in
theorem w84 : (.fieldLink "LadderScan$Block" 18 "LadderScan$Block" "q" "I" : Cond) ∈ CW := cw_in 84 rfl rfl
set_option maxRecDepth 20000 in
theorem w85 : (.fieldLink "LadderScan$Block" 21 "LadderScan$Block" "factor" "I" : Cond) ∈ CW := cw_in 85 rfl rfl
set_option maxRecDepth 20000 in
theorem w86 : (.fieldLink "LadderScan" 78 "LadderScan$Block" "factor" "I" : Cond) ∈ CW := cw_in 86 rfl rfl
set_option maxRecDepth 20000 in
theorem w87 : (.fieldLink "LadderScan$Block" 24 "LadderScan$Block" "offset" "I" : Cond) ∈ CW := cw_in 87 rfl rfl
set_option maxRecDepth 20000 in
theorem w88 : (.fieldLink "LadderScan" 89 "LadderScan$Block" "offset" "I" : Cond) ∈ CW := cw_in 88 rfl rfl
set_option maxRecDepth 20000 in
theorem w89 : (.fieldLink "LadderScan$Block" 27 "LadderScan$Block" "output" "I" : Cond) ∈ CW := cw_in 89 rfl rfl
set_option maxRecDepth 20000 in
theorem w90 : (.fieldLink "LadderScan" 162 "LadderScan$Block" "output" "I" : Cond) ∈ CW := cw_in 90 rfl rfl
set_option maxRecDepth 20000 in
theorem w91 : (.fieldLink "LadderScan$Block" 30 "LadderScan$Block" "counted" "I" : Cond) ∈ CW := cw_in 91 rfl rfl
set_option maxRecDepth 20000 in
theorem w92 : (.fieldLink "LadderScan" 165 "LadderScan$Block" "counted" "I" : Cond) ∈ CW := cw_in 92 rfl rfl
set_option maxRecDepth 20000 in
theorem w93 : (.fieldLink "LadderScan$Block" 33 "LadderScan$Block" "lastInput" "I" : Cond) ∈ CW := cw_in 93 rfl rfl
set_option maxRecDepth 20000 in
theorem w111 : (.fieldLink "LadderScan" 12 "LadderScan" "memory" "LLadderScan$Memory;" : Cond) ∈ CW := cw_in 111 rfl rfl
set_option maxRecDepth 20000 in
theorem w112 : (.fieldLink "LadderScan" 18 "LadderScan" "blocks" "[LLadderScan$Block;" : Cond) ∈ CW := cw_in 112 rfl rfl
set_option maxRecDepth 20000 in
theorem w113 : (.fieldLink "LadderScan" 25 "LadderScan" "written" "LLadderScan$Ladder;" : Cond) ∈ CW := cw_in 113 rfl rfl
set_option maxRecDepth 20000 in
theorem w114 : (.fieldLink "LadderScan" 29 "LadderScan" "program" "LLadderScan$Ladder;" : Cond) ∈ CW := cw_in 114 rfl rfl
set_option maxRecDepth 20000 in
theorem w115 : (.fieldLink "LadderScan" 32 "LadderScan" "blocksMade" "I" : Cond) ∈ CW := cw_in 115 rfl rfl
set_option maxRecDepth 20000 in
theorem w116 : (.fieldLink "LadderScan" 36 "LadderScan" "fullScans" "I" : Cond) ∈ CW := cw_in 116 rfl rfl
set_option maxRecDepth 20000 in
theorem w117 : (.fieldLink "LadderScan" 39 "LadderScan" "failedScans" "I" : Cond) ∈ CW := cw_in 117 rfl rfl
set_option maxRecDepth 20000 in
theorem w118 : (.fieldLink "LadderScan" 42 "LadderScan" "stopped" "Z" : Cond) ∈ CW := cw_in 118 rfl rfl
set_option maxRecDepth 20000 in
theorem w136 : (.methodLink "LadderScanLaw" 91 ⟨"LadderScan", "download", "()I"⟩ : Cond) ∈ CW := cw_in 136 rfl rfl
set_option maxRecDepth 20000 in
theorem w137 : (.instanceMethod ⟨"LadderScan", "download", "()I"⟩ : Cond) ∈ CW := cw_in 137 rfl rfl
set_option maxRecDepth 20000 in
theorem w138 : (.selects "LadderScan" ⟨"LadderScan", "download", "()I"⟩ ⟨"LadderScan", "download", "()I"⟩ : Cond) ∈ CW := cw_in 138 rfl rfl
set_option maxRecDepth 20000 in
theorem w140 : (.methodLink "LadderScan" 113 ⟨"LadderScan$Ladder", "copyFrom", "(LLadderScan$Ladder;)V"⟩ : Cond) ∈ CW := cw_in 140 rfl rfl
set_option maxRecDepth 20000 in
theorem w141 : (.instanceMethod ⟨"LadderScan$Ladder", "copyFrom", "(LLadderScan$Ladder;)V"⟩ : Cond) ∈ CW := cw_in 141 rfl rfl
set_option maxRecDepth 20000 in
theorem w142 : (.selects "LadderScan$Ladder" ⟨"LadderScan$Ladder", "copyFrom", "(LLadderScan$Ladder;)V"⟩ ⟨"LadderScan$Ladder", "copyFrom", "(LLadderScan$Ladder;)V"⟩ : Cond) ∈ CW := cw_in 142 rfl rfl
set_option maxRecDepth 20000 in
theorem w144 : (.methodLink "LadderScan$Ladder" 31 ⟨"java/lang/System", "arraycopy", "(Ljava/lang/Object;ILjava/lang/Object;II)V"⟩ : Cond) ∈ CW := cw_in 144 rfl rfl
set_option maxRecDepth 20000 in
theorem w145 : (.static ⟨"java/lang/System", "arraycopy", "(Ljava/lang/Object;ILjava/lang/Object;II)V"⟩ : Cond) ∈ CW := cw_in 145 rfl rfl
set_option maxRecDepth 20000 in
theorem w146 : (.native ⟨"java/lang/System", "arraycopy", "(Ljava/lang/Object;ILjava/lang/Object;II)V"⟩ : Cond) ∈ CW := cw_in 146 rfl rfl
set_option maxRecDepth 20000 in
theorem w147 : (.methodLink "LadderScan" 117 ⟨"LadderScan$Ladder", "size", "()I"⟩ : Cond) ∈ CW := cw_in 147 rfl rfl
set_option maxRecDepth 20000 in
theorem w148 : (.instanceMethod ⟨"LadderScan$Ladder", "size", "()I"⟩ : Cond) ∈ CW := cw_in 148 rfl rfl
set_option maxRecDepth 20000 in
theorem w149 : (.selects "LadderScan$Ladder" ⟨"LadderScan$Ladder", "size", "()I"⟩ ⟨"LadderScan$Ladder", "size", "()I"⟩ : Cond) ∈ CW := cw_in 149 rfl rfl
set_option maxRecDepth 20000 in
theorem w151 : (.methodLink "LadderScanLaw" 109 ⟨"LadderScan", "restart", "()I"⟩ : Cond) ∈ CW := cw_in 151 rfl rfl
set_option maxRecDepth 20000 in
theorem w152 : (.instanceMethod ⟨"LadderScan", "restart", "()I"⟩ : Cond) ∈ CW := cw_in 152 rfl rfl
set_option maxRecDepth 20000 in
theorem w153 : (.selects "LadderScan" ⟨"LadderScan", "restart", "()I"⟩ ⟨"LadderScan", "restart", "()I"⟩ : Cond) ∈ CW := cw_in 153 rfl rfl
set_option maxRecDepth 20000 in
theorem w155 : (.methodLink "LadderScanLaw" 113 ⟨"LadderScan", "fail", "()I"⟩ : Cond) ∈ CW := cw_in 155 rfl rfl
set_option maxRecDepth 20000 in
theorem w156 : (.instanceMethod ⟨"LadderScan", "fail", "()I"⟩ : Cond) ∈ CW := cw_in 156 rfl rfl
set_option maxRecDepth 20000 in
theorem w157 : (.selects "LadderScan" ⟨"LadderScan", "fail", "()I"⟩ ⟨"LadderScan", "fail", "()I"⟩ : Cond) ∈ CW := cw_in 157 rfl rfl
set_option maxRecDepth 20000 in
theorem w159 : (.methodLink "LadderScan" 149 ⟨"LadderScan$Memory", "losePower", "()V"⟩ : Cond) ∈ CW := cw_in 159 rfl rfl
set_option maxRecDepth 20000 in
theorem w160 : (.instanceMethod ⟨"LadderScan$Memory", "losePower", "()V"⟩ : Cond) ∈ CW := cw_in 160 rfl rfl
set_option maxRecDepth 20000 in
theorem w161 : (.selects "LadderScan$Memory" ⟨"LadderScan$Memory", "losePower", "()V"⟩ ⟨"LadderScan$Memory", "losePower", "()V"⟩ : Cond) ∈ CW := cw_in 161 rfl rfl
set_option maxRecDepth 20000 in
theorem w163 : (.methodLink "LadderScan$Memory" 44 ⟨"LadderScan$Memory", "clearOutputWires", "()V"⟩ : Cond) ∈ CW := cw_in 163 rfl rfl
set_option maxRecDepth 20000 in
theorem w164 : (.instanceMethod ⟨"LadderScan$Memory", "clearOutputWires", "()V"⟩ : Cond) ∈ CW := cw_in 164 rfl rfl
set_option maxRecDepth 20000 in
theorem w165 : (.selects "LadderScan$Memory" ⟨"LadderScan$Memory", "clearOutputWires", "()V"⟩ ⟨"LadderScan$Memory", "clearOutputWires", "()V"⟩ : Cond) ∈ CW := cw_in 165 rfl rfl
set_option maxRecDepth 20000 in
theorem w167 : (.methodLink "LadderScan" 152 ⟨"LadderScan$Block", "losePower", "()V"⟩ : Cond) ∈ CW := cw_in 167 rfl rfl
set_option maxRecDepth 20000 in
theorem w168 : (.instanceMethod ⟨"LadderScan$Block", "losePower", "()V"⟩ : Cond) ∈ CW := cw_in 168 rfl rfl
set_option maxRecDepth 20000 in
theorem w169 : (.selects "LadderScan$Block" ⟨"LadderScan$Block", "losePower", "()V"⟩ ⟨"LadderScan$Block", "losePower", "()V"⟩ : Cond) ∈ CW := cw_in 169 rfl rfl
set_option maxRecDepth 20000 in
theorem w171 : (.methodLink "LadderScan" 153 ⟨"LadderScan$Memory", "keptOnes", "()I"⟩ : Cond) ∈ CW := cw_in 171 rfl rfl
set_option maxRecDepth 20000 in
theorem w172 : (.instanceMethod ⟨"LadderScan$Memory", "keptOnes", "()I"⟩ : Cond) ∈ CW := cw_in 172 rfl rfl
set_option maxRecDepth 20000 in
theorem w173 : (.selects "LadderScan$Memory" ⟨"LadderScan$Memory", "keptOnes", "()I"⟩ ⟨"LadderScan$Memory", "keptOnes", "()I"⟩ : Cond) ∈ CW := cw_in 173 rfl rfl
set_option maxRecDepth 20000 in
theorem w175 : (.methodLink "LadderScanLaw" 68 ⟨"LadderScanLaw", "block", "(LLadderScan;III[J)I"⟩ : Cond) ∈ CW := cw_in 175 rfl rfl
set_option maxRecDepth 20000 in
theorem w176 : (.static ⟨"LadderScanLaw", "block", "(LLadderScan;III[J)I"⟩ : Cond) ∈ CW := cw_in 176 rfl rfl
set_option maxRecDepth 20000 in
theorem w178 : (.classLink "LadderScanLaw" 13 "java/lang/IllegalArgumentException" : Cond) ∈ CW := cw_in 178 rfl rfl
set_option maxRecDepth 20000 in
theorem w179 : (.classLink "LadderScanLaw" 15 "java/lang/IllegalStateException" : Cond) ∈ CW := cw_in 179 rfl rfl
set_option maxRecDepth 20000 in
theorem w180 : (.methodLink "LadderScanLaw" 7 ⟨"LadderScan", "block", "(III)I"⟩ : Cond) ∈ CW := cw_in 180 rfl rfl
set_option maxRecDepth 20000 in
theorem w181 : (.instanceMethod ⟨"LadderScan", "block", "(III)I"⟩ : Cond) ∈ CW := cw_in 181 rfl rfl
set_option maxRecDepth 20000 in
theorem w182 : (.selects "LadderScan" ⟨"LadderScan", "block", "(III)I"⟩ ⟨"LadderScan", "block", "(III)I"⟩ : Cond) ∈ CW := cw_in 182 rfl rfl
set_option maxRecDepth 20000 in
theorem w184 : (.methodLink "LadderScan" 47 ⟨"LadderScan", "isBlock", "(III)Z"⟩ : Cond) ∈ CW := cw_in 184 rfl rfl
set_option maxRecDepth 20000 in
theorem w185 : (.static ⟨"LadderScan", "isBlock", "(III)Z"⟩ : Cond) ∈ CW := cw_in 185 rfl rfl
set_option maxRecDepth 20000 in
theorem w187 : (.methodLink "LadderScan" 121 ⟨"LadderScan", "isWithin", "(III)Z"⟩ : Cond) ∈ CW := cw_in 187 rfl rfl
set_option maxRecDepth 20000 in
theorem w188 : (.static ⟨"LadderScan", "isWithin", "(III)Z"⟩ : Cond) ∈ CW := cw_in 188 rfl rfl
set_option maxRecDepth 20000 in
theorem w190 : (.methodLink "LadderScan" 137 ⟨"LadderScan", "isBit", "(I)Z"⟩ : Cond) ∈ CW := cw_in 190 rfl rfl
set_option maxRecDepth 20000 in
theorem w191 : (.static ⟨"LadderScan", "isBit", "(I)Z"⟩ : Cond) ∈ CW := cw_in 191 rfl rfl
set_option maxRecDepth 20000 in
theorem w193 : (.methodLink "LadderScan" 128 ⟨"LadderScan", "isRegister", "(I)Z"⟩ : Cond) ∈ CW := cw_in 193 rfl rfl
set_option maxRecDepth 20000 in
theorem w194 : (.static ⟨"LadderScan", "isRegister", "(I)Z"⟩ : Cond) ∈ CW := cw_in 194 rfl rfl
set_option maxRecDepth 20000 in
theorem w196 : (.classLink "LadderScan" 51 "java/lang/IllegalArgumentException" : Cond) ∈ CW := cw_in 196 rfl rfl
set_option maxRecDepth 20000 in
theorem w197 : (.instantiable "java/lang/IllegalArgumentException" 6 : Cond) ∈ CW := cw_in 197 rfl rfl
set_option maxRecDepth 20000 in
theorem w205 : (.selects "java/lang/IllegalArgumentException" ⟨"java/lang/Throwable", "fillInStackTrace", "(I)Ljava/lang/Throwable;"⟩ ⟨"java/lang/Throwable", "fillInStackTrace", "(I)Ljava/lang/Throwable;"⟩ : Cond) ∈ CW := cw_in 205 rfl rfl
set_option maxRecDepth 20000 in
theorem w206 : (.selects "java/lang/IllegalArgumentException" ⟨"java/lang/Throwable", "fillInStackTrace", "()Ljava/lang/Throwable;"⟩ ⟨"java/lang/Throwable", "fillInStackTrace", "()Ljava/lang/Throwable;"⟩ : Cond) ∈ CW := cw_in 206 rfl rfl
set_option maxRecDepth 20000 in
theorem w217 : (.fieldLink "java/lang/Throwable" 198 "java/lang/Throwable" "backtrace" "Ljava/lang/Object;" : Cond) ∈ CW := cw_in 217 rfl rfl
set_option maxRecDepth 20000 in
theorem w219 : (.instanceMethod ⟨"java/lang/Throwable", "<init>", "()V"⟩ : Cond) ∈ CW := cw_in 219 rfl rfl
set_option maxRecDepth 20000 in
theorem w221 : (.methodLink "java/lang/Throwable" 1 ⟨"java/lang/Object", "<init>", "()V"⟩ : Cond) ∈ CW := cw_in 221 rfl rfl
set_option maxRecDepth 20000 in
theorem w222 : (.fieldLink "java/lang/Throwable" 13 "java/lang/Throwable" "UNASSIGNED_STACK" "[Ljava/lang/StackTraceElement;" : Cond) ∈ CW := cw_in 222 rfl rfl
set_option maxRecDepth 20000 in
theorem w224 : (.fieldLink "java/lang/Throwable" 20 "java/lang/Throwable" "SUPPRESSED_SENTINEL" "Ljava/util/List;" : Cond) ∈ CW := cw_in 224 rfl rfl
set_option maxRecDepth 20000 in
theorem w226 : (.methodLink "java/lang/Throwable" 27 ⟨"java/lang/Throwable", "fillInStackTrace", "()Ljava/lang/Throwable;"⟩ : Cond) ∈ CW := cw_in 226 rfl rfl
set_option maxRecDepth 20000 in
theorem w227 : (.instanceMethod ⟨"java/lang/Throwable", "fillInStackTrace", "()Ljava/lang/Throwable;"⟩ : Cond) ∈ CW := cw_in 227 rfl rfl
set_option maxRecDepth 20000 in
theorem w229 : (.selects "java/lang/ArithmeticException" ⟨"java/lang/Throwable", "fillInStackTrace", "()Ljava/lang/Throwable;"⟩ ⟨"java/lang/Throwable", "fillInStackTrace", "()Ljava/lang/Throwable;"⟩ : Cond) ∈ CW := cw_in 229 rfl rfl
set_option maxRecDepth 20000 in
theorem w230 : (.selects "java/lang/IllegalStateException" ⟨"java/lang/Throwable", "fillInStackTrace", "()Ljava/lang/Throwable;"⟩ ⟨"java/lang/Throwable", "fillInStackTrace", "()Ljava/lang/Throwable;"⟩ : Cond) ∈ CW := cw_in 230 rfl rfl
set_option maxRecDepth 20000 in
theorem w231 : (.selects "java/lang/UnsupportedOperationException" ⟨"java/lang/Throwable", "fillInStackTrace", "()Ljava/lang/Throwable;"⟩ ⟨"java/lang/Throwable", "fillInStackTrace", "()Ljava/lang/Throwable;"⟩ : Cond) ∈ CW := cw_in 231 rfl rfl
set_option maxRecDepth 20000 in
theorem w232 : (.selects "java/util/NoSuchElementException" ⟨"java/lang/Throwable", "fillInStackTrace", "()Ljava/lang/Throwable;"⟩ ⟨"java/lang/Throwable", "fillInStackTrace", "()Ljava/lang/Throwable;"⟩ : Cond) ∈ CW := cw_in 232 rfl rfl
set_option maxRecDepth 20000 in
theorem w234 : (.methodLink "java/lang/Throwable" 202 ⟨"java/lang/Throwable", "fillInStackTrace", "(I)Ljava/lang/Throwable;"⟩ : Cond) ∈ CW := cw_in 234 rfl rfl
set_option maxRecDepth 20000 in
theorem w236 : (.instanceMethod ⟨"java/lang/Throwable", "fillInStackTrace", "(I)Ljava/lang/Throwable;"⟩ : Cond) ∈ CW := cw_in 236 rfl rfl
set_option maxRecDepth 20000 in
theorem w237 : (.instantiable "java/lang/Throwable" 6 : Cond) ∈ CW := cw_in 237 rfl rfl
set_option maxRecDepth 20000 in
theorem w238 : (.native ⟨"java/lang/Throwable", "fillInStackTrace", "(I)Ljava/lang/Throwable;"⟩ : Cond) ∈ CW := cw_in 238 rfl rfl
set_option maxRecDepth 20000 in
theorem w239 : (.methodLink "LadderScan" 53 ⟨"java/lang/IllegalArgumentException", "<init>", "()V"⟩ : Cond) ∈ CW := cw_in 239 rfl rfl
set_option maxRecDepth 20000 in
theorem w240 : (.instanceMethod ⟨"java/lang/IllegalArgumentException", "<init>", "()V"⟩ : Cond) ∈ CW := cw_in 240 rfl rfl
set_option maxRecDepth 20000 in
theorem w242 : (.methodLink "java/lang/IllegalArgumentException" 1 ⟨"java/lang/RuntimeException", "<init>", "()V"⟩ : Cond) ∈ CW := cw_in 242 rfl rfl
set_option maxRecDepth 20000 in
theorem w243 : (.instanceMethod ⟨"java/lang/RuntimeException", "<init>", "()V"⟩ : Cond) ∈ CW := cw_in 243 rfl rfl
set_option maxRecDepth 20000 in
theorem w245 : (.methodLink "java/lang/RuntimeException" 1 ⟨"java/lang/Exception", "<init>", "()V"⟩ : Cond) ∈ CW := cw_in 245 rfl rfl
set_option maxRecDepth 20000 in
theorem w246 : (.instanceMethod ⟨"java/lang/Exception", "<init>", "()V"⟩ : Cond) ∈ CW := cw_in 246 rfl rfl
set_option maxRecDepth 20000 in
theorem w248 : (.methodLink "java/lang/Exception" 1 ⟨"java/lang/Throwable", "<init>", "()V"⟩ : Cond) ∈ CW := cw_in 248 rfl rfl
set_option maxRecDepth 20000 in
theorem w249 : (.fieldLink "java/lang/Throwable" 198 "java/lang/Throwable" "backtrace" "Ljava/lang/Object;" : Cond) ∈ CW := cw_in 249 rfl rfl
set_option maxRecDepth 20000 in
theorem w250 : (.fieldLink "java/lang/Throwable" 7 "java/lang/Throwable" "cause" "Ljava/lang/Throwable;" : Cond) ∈ CW := cw_in 250 rfl rfl
set_option maxRecDepth 20000 in
theorem w251 : (.fieldLink "java/lang/Throwable" 17 "java/lang/Throwable" "stackTrace" "[Ljava/lang/StackTraceElement;" : Cond) ∈ CW := cw_in 251 rfl rfl
set_option maxRecDepth 20000 in
theorem w252 : (.fieldLink "java/lang/Throwable" 24 "java/lang/Throwable" "suppressedExceptions" "Ljava/util/List;" : Cond) ∈ CW := cw_in 252 rfl rfl
set_option maxRecDepth 20000 in
theorem w261 : (.classLink "LadderScan" 54 "java/lang/IllegalStateException" : Cond) ∈ CW := cw_in 261 rfl rfl
set_option maxRecDepth 20000 in
theorem w262 : (.instantiable "java/lang/IllegalStateException" 6 : Cond) ∈ CW := cw_in 262 rfl rfl
set_option maxRecDepth 20000 in
theorem w264 : (.selects "java/lang/IllegalStateException" ⟨"java/lang/Throwable", "fillInStackTrace", "(I)Ljava/lang/Throwable;"⟩ ⟨"java/lang/Throwable", "fillInStackTrace", "(I)Ljava/lang/Throwable;"⟩ : Cond) ∈ CW := cw_in 264 rfl rfl
set_option maxRecDepth 20000 in
theorem w270 : (.methodLink "LadderScan" 56 ⟨"java/lang/IllegalStateException", "<init>", "()V"⟩ : Cond) ∈ CW := cw_in 270 rfl rfl
set_option maxRecDepth 20000 in
theorem w271 : (.instanceMethod ⟨"java/lang/IllegalStateException", "<init>", "()V"⟩ : Cond) ∈ CW := cw_in 271 rfl rfl
set_option maxRecDepth 20000 in
theorem w273 : (.methodLink "java/lang/IllegalStateException" 1 ⟨"java/lang/RuntimeException", "<init>", "()V"⟩ : Cond) ∈ CW := cw_in 273 rfl rfl
set_option maxRecDepth 20000 in
theorem w276 : (.methodLink "LadderScan" 57 ⟨"LadderScan$Block", "become", "(III)V"⟩ : Cond) ∈ CW := cw_in 276 rfl rfl
set_option maxRecDepth 20000 in
theorem w277 : (.instanceMethod ⟨"LadderScan$Block", "become", "(III)V"⟩ : Cond) ∈ CW := cw_in 277 rfl rfl
set_option maxRecDepth 20000 in
theorem w278 : (.selects "LadderScan$Block" ⟨"LadderScan$Block", "become", "(III)V"⟩ ⟨"LadderScan$Block", "become", "(III)V"⟩ : Cond) ∈ CW := cw_in 278 rfl rfl
set_option maxRecDepth 20000 in
theorem w280 : (.methodLink "LadderScanLaw" 80 ⟨"LadderScanLaw", "tune", "(LLadderScan;IDD[D)I"⟩ : Cond) ∈ CW := cw_in 280 rfl rfl
set_option maxRecDepth 20000 in
theorem w281 : (.static ⟨"LadderScanLaw", "tune", "(LLadderScan;IDD[D)I"⟩ : Cond) ∈ CW := cw_in 281 rfl rfl
set_option maxRecDepth 20000 in
theorem w283 : (.classLink "LadderScanLaw" 21 "java/util/NoSuchElementException" : Cond) ∈ CW := cw_in 283 rfl rfl
set_option maxRecDepth 20000 in
theorem w284 : (.classLink "LadderScanLaw" 23 "java/lang/UnsupportedOperationException" : Cond) ∈ CW := cw_in 284 rfl rfl
set_option maxRecDepth 20000 in
theorem w285 : (.methodLink "LadderScanLaw" 17 ⟨"LadderScan", "tune", "(IDD)D"⟩ : Cond) ∈ CW := cw_in 285 rfl rfl
set_option maxRecDepth 20000 in
theorem w286 : (.instanceMethod ⟨"LadderScan", "tune", "(IDD)D"⟩ : Cond) ∈ CW := cw_in 286 rfl rfl
set_option maxRecDepth 20000 in
theorem w287 : (.selects "LadderScan" ⟨"LadderScan", "tune", "(IDD)D"⟩ ⟨"LadderScan", "tune", "(IDD)D"⟩ : Cond) ∈ CW := cw_in 287 rfl rfl
set_option maxRecDepth 20000 in
theorem w289 : (.methodLink "LadderScan" 61 ⟨"LadderScan", "isMade", "(I)Z"⟩ : Cond) ∈ CW := cw_in 289 rfl rfl
set_option maxRecDepth 20000 in
theorem w291 : (.instanceMethod ⟨"LadderScan", "isMade", "(I)Z"⟩ : Cond) ∈ CW := cw_in 291 rfl rfl
set_option maxRecDepth 20000 in
theorem w293 : (.classLink "LadderScan" 65 "java/util/NoSuchElementException" : Cond) ∈ CW := cw_in 293 rfl rfl
set_option maxRecDepth 20000 in
theorem w294 : (.instantiable "java/util/NoSuchElementException" 6 : Cond) ∈ CW := cw_in 294 rfl rfl
set_option maxRecDepth 20000 in
theorem w296 : (.selects "java/util/NoSuchElementException" ⟨"java/lang/Throwable", "fillInStackTrace", "(I)Ljava/lang/Throwable;"⟩ ⟨"java/lang/Throwable", "fillInStackTrace", "(I)Ljava/lang/Throwable;"⟩ : Cond) ∈ CW := cw_in 296 rfl rfl
set_option maxRecDepth 20000 in
theorem w302 : (.methodLink "LadderScan" 67 ⟨"java/util/NoSuchElementException", "<init>", "()V"⟩ : Cond) ∈ CW := cw_in 302 rfl rfl
set_option maxRecDepth 20000 in
theorem w303 : (.instanceMethod ⟨"java/util/NoSuchElementException", "<init>", "()V"⟩ : Cond) ∈ CW := cw_in 303 rfl rfl
set_option maxRecDepth 20000 in
theorem w305 : (.methodLink "java/util/NoSuchElementException" 1 ⟨"java/lang/RuntimeException", "<init>", "()V"⟩ : Cond) ∈ CW := cw_in 305 rfl rfl
set_option maxRecDepth 20000 in
theorem w308 : (.classLink "LadderScan" 71 "java/lang/UnsupportedOperationException" : Cond) ∈ CW := cw_in 308 rfl rfl
set_option maxRecDepth 20000 in
theorem w309 : (.instantiable "java/lang/UnsupportedOperationException" 6 : Cond) ∈ CW := cw_in 309 rfl rfl
set_option maxRecDepth 20000 in
theorem w311 : (.selects "java/lang/UnsupportedOperationException" ⟨"java/lang/Throwable", "fillInStackTrace", "(I)Ljava/lang/Throwable;"⟩ ⟨"java/lang/Throwable", "fillInStackTrace", "(I)Ljava/lang/Throwable;"⟩ : Cond) ∈ CW := cw_in 311 rfl rfl
set_option maxRecDepth 20000 in
theorem w317 : (.methodLink "LadderScan" 73 ⟨"java/lang/UnsupportedOperationException", "<init>", "()V"⟩ : Cond) ∈ CW := cw_in 317 rfl rfl
set_option maxRecDepth 20000 in
theorem w318 : (.instanceMethod ⟨"java/lang/UnsupportedOperationException", "<init>", "()V"⟩ : Cond) ∈ CW := cw_in 318 rfl rfl
set_option maxRecDepth 20000 in
theorem w320 : (.methodLink "java/lang/UnsupportedOperationException" 1 ⟨"java/lang/RuntimeException", "<init>", "()V"⟩ : Cond) ∈ CW := cw_in 320 rfl rfl
set_option maxRecDepth 20000 in
theorem w323 : (.methodLink "LadderScan" 74 ⟨"LadderScan", "isWholeEighths", "(D)Z"⟩ : Cond) ∈ CW := cw_in 323 rfl rfl
set_option maxRecDepth 20000 in
theorem w324 : (.static ⟨"LadderScan", "isWholeEighths", "(D)Z"⟩ : Cond) ∈ CW := cw_in 324 rfl rfl
set_option maxRecDepth 20000 in
theorem w326 : (.methodLink "LadderScan" 131 ⟨"LadderScan", "isInRange", "(D)Z"⟩ : Cond) ∈ CW := cw_in 326 rfl rfl
set_option maxRecDepth 20000 in
theorem w327 : (.static ⟨"LadderScan", "isInRange", "(D)Z"⟩ : Cond) ∈ CW := cw_in 327 rfl rfl
set_option maxRecDepth 20000 in
theorem w329 : (.constantDouble "LadderScan" 171 13889101250810609664 : Cond) ∈ CW := cw_in 329 rfl rfl
set_option maxRecDepth 20000 in
theorem w330 : (.constantDouble "LadderScan" 173 4665729213955833856 : Cond) ∈ CW := cw_in 330 rfl rfl
set_option maxRecDepth 20000 in
theorem w331 : (.methodLink "LadderScan" 85 ⟨"LadderScan", "eighthsAtMost", "(D)I"⟩ : Cond) ∈ CW := cw_in 331 rfl rfl
set_option maxRecDepth 20000 in
theorem w332 : (.static ⟨"LadderScan", "eighthsAtMost", "(D)I"⟩ : Cond) ∈ CW := cw_in 332 rfl rfl
set_option maxRecDepth 20000 in
theorem w334 : (.constantDouble "LadderScan" 175 4620693217682128896 : Cond) ∈ CW := cw_in 334 rfl rfl
set_option maxRecDepth 20000 in
theorem w335 : (.methodLink "LadderScan" 81 ⟨"LadderScan", "numberOf", "(I)D"⟩ : Cond) ∈ CW := cw_in 335 rfl rfl
set_option maxRecDepth 20000 in
theorem w336 : (.static ⟨"LadderScan", "numberOf", "(I)D"⟩ : Cond) ∈ CW := cw_in 336 rfl rfl
set_option maxRecDepth 20000 in
theorem w338 : (.methodLink "LadderScanLaw" 84 ⟨"LadderScanLaw", "step", "(LLadderScan;III[J)I"⟩ : Cond) ∈ CW := cw_in 338 rfl rfl
set_option maxRecDepth 20000 in
theorem w339 : (.static ⟨"LadderScanLaw", "step", "(LLadderScan;III[J)I"⟩ : Cond) ∈ CW := cw_in 339 rfl rfl
set_option maxRecDepth 20000 in
theorem w341 : (.methodLink "LadderScanLaw" 25 ⟨"LadderScan", "step", "(III)I"⟩ : Cond) ∈ CW := cw_in 341 rfl rfl
set_option maxRecDepth 20000 in
theorem w342 : (.instanceMethod ⟨"LadderScan", "step", "(III)I"⟩ : Cond) ∈ CW := cw_in 342 rfl rfl
set_option maxRecDepth 20000 in
theorem w343 : (.selects "LadderScan" ⟨"LadderScan", "step", "(III)I"⟩ ⟨"LadderScan", "step", "(III)I"⟩ : Cond) ∈ CW := cw_in 343 rfl rfl
set_option maxRecDepth 20000 in
theorem w345 : (.methodLink "LadderScan" 92 ⟨"LadderScan", "isRung", "(I)Z"⟩ : Cond) ∈ CW := cw_in 345 rfl rfl
set_option maxRecDepth 20000 in
theorem w346 : (.static ⟨"LadderScan", "isRung", "(I)Z"⟩ : Cond) ∈ CW := cw_in 346 rfl rfl
set_option maxRecDepth 20000 in
theorem w348 : (.methodLink "LadderScan" 95 ⟨"LadderScan", "isStep", "(II)Z"⟩ : Cond) ∈ CW := cw_in 348 rfl rfl
set_option maxRecDepth 20000 in
theorem w350 : (.instanceMethod ⟨"LadderScan", "isStep", "(II)Z"⟩ : Cond) ∈ CW := cw_in 350 rfl rfl
set_option maxRecDepth 20000 in
theorem w352 : (.methodLink "LadderScan" 99 ⟨"LadderScan$Ladder", "stackAllows", "(II)Z"⟩ : Cond) ∈ CW := cw_in 352 rfl rfl
set_option maxRecDepth 20000 in
theorem w353 : (.instanceMethod ⟨"LadderScan$Ladder", "stackAllows", "(II)Z"⟩ : Cond) ∈ CW := cw_in 353 rfl rfl
set_option maxRecDepth 20000 in
theorem w354 : (.selects "LadderScan$Ladder" ⟨"LadderScan$Ladder", "stackAllows", "(II)Z"⟩ ⟨"LadderScan$Ladder", "stackAllows", "(II)Z"⟩ : Cond) ∈ CW := cw_in 354 rfl rfl
set_option maxRecDepth 20000 in
theorem w356 : (.methodLink "LadderScan$Ladder" 24 ⟨"LadderScan$Ladder", "needed", "(I)I"⟩ : Cond) ∈ CW := cw_in 356 rfl rfl
set_option maxRecDepth 20000 in
theorem w357 : (.static ⟨"LadderScan$Ladder", "needed", "(I)I"⟩ : Cond) ∈ CW := cw_in 357 rfl rfl
set_option maxRecDepth 20000 in
theorem w359 : (.methodLink "LadderScan$Ladder" 37 ⟨"LadderScan$Ladder", "pushes", "(I)Z"⟩ : Cond) ∈ CW := cw_in 359 rfl rfl
set_option maxRecDepth 20000 in
theorem w360 : (.static ⟨"LadderScan$Ladder", "pushes", "(I)Z"⟩ : Cond) ∈ CW := cw_in 360 rfl rfl
set_option maxRecDepth 20000 in
theorem w362 : (.methodLink "LadderScan$Ladder" 41 ⟨"LadderScan$Ladder", "joins", "(I)Z"⟩ : Cond) ∈ CW := cw_in 362 rfl rfl
set_option maxRecDepth 20000 in
theorem w363 : (.static ⟨"LadderScan$Ladder", "joins", "(I)Z"⟩ : Cond) ∈ CW := cw_in 363 rfl rfl
set_option maxRecDepth 20000 in
theorem w365 : (.methodLink "LadderScan$Ladder" 28 ⟨"LadderScan$Ladder", "growth", "(I)I"⟩ : Cond) ∈ CW := cw_in 365 rfl rfl
set_option maxRecDepth 20000 in
theorem w366 : (.static ⟨"LadderScan$Ladder", "growth", "(I)I"⟩ : Cond) ∈ CW := cw_in 366 rfl rfl
set_option maxRecDepth 20000 in
theorem w368 : (.methodLink "LadderScan" 102 ⟨"LadderScan$Ladder", "isFull", "(I)Z"⟩ : Cond) ∈ CW := cw_in 368 rfl rfl
set_option maxRecDepth 20000 in
theorem w369 : (.instanceMethod ⟨"LadderScan$Ladder", "isFull", "(I)Z"⟩ : Cond) ∈ CW := cw_in 369 rfl rfl
set_option maxRecDepth 20000 in
theorem w370 : (.selects "LadderScan$Ladder" ⟨"LadderScan$Ladder", "isFull", "(I)Z"⟩ ⟨"LadderScan$Ladder", "isFull", "(I)Z"⟩ : Cond) ∈ CW := cw_in 370 rfl rfl
set_option maxRecDepth 20000 in
theorem w372 : (.methodLink "LadderScan" 105 ⟨"LadderScan$Ladder", "add", "(III)I"⟩ : Cond) ∈ CW := cw_in 372 rfl rfl
set_option maxRecDepth 20000 in
theorem w373 : (.instanceMethod ⟨"LadderScan$Ladder", "add", "(III)I"⟩ : Cond) ∈ CW := cw_in 373 rfl rfl
set_option maxRecDepth 20000 in
theorem w374 : (.selects "LadderScan$Ladder" ⟨"LadderScan$Ladder", "add", "(III)I"⟩ ⟨"LadderScan$Ladder", "add", "(III)I"⟩ : Cond) ∈ CW := cw_in 374 rfl rfl
set_option maxRecDepth 20000 in
theorem w376 : (.methodLink "LadderScanLaw" 87 ⟨"LadderScanLaw", "erase", "(LLadderScan;I[J)I"⟩ : Cond) ∈ CW := cw_in 376 rfl rfl
set_option maxRecDepth 20000 in
theorem w377 : (.static ⟨"LadderScanLaw", "erase", "(LLadderScan;I[J)I"⟩ : Cond) ∈ CW := cw_in 377 rfl rfl
set_option maxRecDepth 20000 in
theorem w379 : (.methodLink "LadderScanLaw" 28 ⟨"LadderScan", "erase", "(I)I"⟩ : Cond) ∈ CW := cw_in 379 rfl rfl
set_option maxRecDepth 20000 in
theorem w380 : (.instanceMethod ⟨"LadderScan", "erase", "(I)I"⟩ : Cond) ∈ CW := cw_in 380 rfl rfl
set_option maxRecDepth 20000 in
theorem w381 : (.selects "LadderScan" ⟨"LadderScan", "erase", "(I)I"⟩ ⟨"LadderScan", "erase", "(I)I"⟩ : Cond) ∈ CW := cw_in 381 rfl rfl
set_option maxRecDepth 20000 in
theorem w383 : (.methodLink "LadderScan" 109 ⟨"LadderScan$Ladder", "empty", "(I)I"⟩ : Cond) ∈ CW := cw_in 383 rfl rfl
set_option maxRecDepth 20000 in
theorem w384 : (.instanceMethod ⟨"LadderScan$Ladder", "empty", "(I)I"⟩ : Cond) ∈ CW := cw_in 384 rfl rfl
set_option maxRecDepth 20000 in
theorem w385 : (.selects "LadderScan$Ladder" ⟨"LadderScan$Ladder", "empty", "(I)I"⟩ ⟨"LadderScan$Ladder", "empty", "(I)I"⟩ : Cond) ∈ CW := cw_in 385 rfl rfl
set_option maxRecDepth 20000 in
theorem w387 : (.methodLink "LadderScanLaw" 95 ⟨"LadderScanLaw", "wire", "(LLadderScan;II[J)I"⟩ : Cond) ∈ CW := cw_in 387 rfl rfl
set_option maxRecDepth 20000 in
theorem w388 : (.static ⟨"LadderScanLaw", "wire", "(LLadderScan;II[J)I"⟩ : Cond) ∈ CW := cw_in 388 rfl rfl
set_option maxRecDepth 20000 in
theorem w390 : (.methodLink "LadderScanLaw" 32 ⟨"LadderScan", "wire", "(II)I"⟩ : Cond) ∈ CW := cw_in 390 rfl rfl
set_option maxRecDepth 20000 in
theorem w391 : (.instanceMethod ⟨"LadderScan", "wire", "(II)I"⟩ : Cond) ∈ CW := cw_in 391 rfl rfl
set_option maxRecDepth 20000 in
theorem w392 : (.selects "LadderScan" ⟨"LadderScan", "wire", "(II)I"⟩ ⟨"LadderScan", "wire", "(II)I"⟩ : Cond) ∈ CW := cw_in 392 rfl rfl
set_option maxRecDepth 20000 in
theorem w394 : (.methodLink "LadderScanLaw" 99 ⟨"LadderScanLaw", "put", "(LLadderScan;ID[D)I"⟩ : Cond) ∈ CW := cw_in 394 rfl rfl
set_option maxRecDepth 20000 in
theorem w395 : (.static ⟨"LadderScanLaw", "put", "(LLadderScan;ID[D)I"⟩ : Cond) ∈ CW := cw_in 395 rfl rfl
set_option maxRecDepth 20000 in
theorem w397 : (.methodLink "LadderScanLaw" 36 ⟨"LadderScan", "put", "(ID)D"⟩ : Cond) ∈ CW := cw_in 397 rfl rfl
set_option maxRecDepth 20000 in
theorem w398 : (.instanceMethod ⟨"LadderScan", "put", "(ID)D"⟩ : Cond) ∈ CW := cw_in 398 rfl rfl
set_option maxRecDepth 20000 in
theorem w399 : (.selects "LadderScan" ⟨"LadderScan", "put", "(ID)D"⟩ ⟨"LadderScan", "put", "(ID)D"⟩ : Cond) ∈ CW := cw_in 399 rfl rfl
set_option maxRecDepth 20000 in
theorem w401 : (.methodLink "LadderScanLaw" 103 ⟨"LadderScanLaw", "force", "(LLadderScan;II[J)I"⟩ : Cond) ∈ CW := cw_in 401 rfl rfl
set_option maxRecDepth 20000 in
theorem w402 : (.static ⟨"LadderScanLaw", "force", "(LLadderScan;II[J)I"⟩ : Cond) ∈ CW := cw_in 402 rfl rfl
set_option maxRecDepth 20000 in
theorem w404 : (.methodLink "LadderScanLaw" 40 ⟨"LadderScan", "force", "(II)I"⟩ : Cond) ∈ CW := cw_in 404 rfl rfl
set_option maxRecDepth 20000 in
theorem w405 : (.instanceMethod ⟨"LadderScan", "force", "(II)I"⟩ : Cond) ∈ CW := cw_in 405 rfl rfl
set_option maxRecDepth 20000 in
theorem w406 : (.selects "LadderScan" ⟨"LadderScan", "force", "(II)I"⟩ ⟨"LadderScan", "force", "(II)I"⟩ : Cond) ∈ CW := cw_in 406 rfl rfl
set_option maxRecDepth 20000 in
theorem w408 : (.methodLink "LadderScanLaw" 106 ⟨"LadderScanLaw", "scan", "(LLadderScan;I[J)I"⟩ : Cond) ∈ CW := cw_in 408 rfl rfl
set_option maxRecDepth 20000 in
theorem w409 : (.static ⟨"LadderScanLaw", "scan", "(LLadderScan;I[J)I"⟩ : Cond) ∈ CW := cw_in 409 rfl rfl
set_option maxRecDepth 20000 in
theorem w411 : (.classLink "LadderScanLaw" 46 "java/lang/ArithmeticException" : Cond) ∈ CW := cw_in 411 rfl rfl
set_option maxRecDepth 20000 in
theorem w412 : (.methodLink "LadderScanLaw" 43 ⟨"LadderScan", "scan", "(I)I"⟩ : Cond) ∈ CW := cw_in 412 rfl rfl
set_option maxRecDepth 20000 in
theorem w413 : (.instanceMethod ⟨"LadderScan", "scan", "(I)I"⟩ : Cond) ∈ CW := cw_in 413 rfl rfl
set_option maxRecDepth 20000 in
theorem w414 : (.selects "LadderScan" ⟨"LadderScan", "scan", "(I)I"⟩ ⟨"LadderScan", "scan", "(I)I"⟩ : Cond) ∈ CW := cw_in 414 rfl rfl
set_option maxRecDepth 20000 in
theorem w416 : (.methodLink "LadderScan" 143 ⟨"LadderScan", "scanOnce", "()I"⟩ : Cond) ∈ CW := cw_in 416 rfl rfl
set_option maxRecDepth 20000 in
theorem w418 : (.instanceMethod ⟨"LadderScan", "scanOnce", "()I"⟩ : Cond) ∈ CW := cw_in 418 rfl rfl
set_option maxRecDepth 20000 in
theorem w420 : (.methodLink "LadderScan" 177 ⟨"LadderScan$Memory", "takeInputs", "()V"⟩ : Cond) ∈ CW := cw_in 420 rfl rfl
set_option maxRecDepth 20000 in
theorem w421 : (.instanceMethod ⟨"LadderScan$Memory", "takeInputs", "()V"⟩ : Cond) ∈ CW := cw_in 421 rfl rfl
set_option maxRecDepth 20000 in
theorem w422 : (.selects "LadderScan$Memory" ⟨"LadderScan$Memory", "takeInputs", "()V"⟩ ⟨"LadderScan$Memory", "takeInputs", "()V"⟩ : Cond) ∈ CW := cw_in 422 rfl rfl
set_option maxRecDepth 20000 in
theorem w424 : (.methodLink "LadderScan" 180 ⟨"LadderScan", "runProgram", "()I"⟩ : Cond) ∈ CW := cw_in 424 rfl rfl
set_option maxRecDepth 20000 in
theorem w426 : (.instanceMethod ⟨"LadderScan", "runProgram", "()I"⟩ : Cond) ∈ CW := cw_in 426 rfl rfl
set_option maxRecDepth 20000 in
theorem w428 : (.methodLink "LadderScan" 189 ⟨"LadderScan", "runRung", "(I)I"⟩ : Cond) ∈ CW := cw_in 428 rfl rfl
set_option maxRecDepth 20000 in
theorem w430 : (.instanceMethod ⟨"LadderScan", "runRung", "(I)I"⟩ : Cond) ∈ CW := cw_in 430 rfl rfl
set_option maxRecDepth 20000 in
theorem w432 : (.methodLink "LadderScan" 201 ⟨"LadderScan$Block", "failsWith", "(I)Z"⟩ : Cond) ∈ CW := cw_in 432 rfl rfl
set_option maxRecDepth 20000 in
theorem w433 : (.instanceMethod ⟨"LadderScan$Block", "failsWith", "(I)Z"⟩ : Cond) ∈ CW := cw_in 433 rfl rfl
set_option maxRecDepth 20000 in
theorem w434 : (.selects "LadderScan$Block" ⟨"LadderScan$Block", "failsWith", "(I)Z"⟩ ⟨"LadderScan$Block", "failsWith", "(I)Z"⟩ : Cond) ∈ CW := cw_in 434 rfl rfl
set_option maxRecDepth 20000 in
theorem w436 : (.methodLink "LadderScan" 204 ⟨"LadderScan$Block", "work", "(ILLadderScan$Memory;)I"⟩ : Cond) ∈ CW := cw_in 436 rfl rfl
set_option maxRecDepth 20000 in
theorem w437 : (.instanceMethod ⟨"LadderScan$Block", "work", "(ILLadderScan$Memory;)I"⟩ : Cond) ∈ CW := cw_in 437 rfl rfl
set_option maxRecDepth 20000 in
theorem w438 : (.selects "LadderScan$Block" ⟨"LadderScan$Block", "work", "(ILLadderScan$Memory;)I"⟩ ⟨"LadderScan$Block", "work", "(ILLadderScan$Memory;)I"⟩ : Cond) ∈ CW := cw_in 438 rfl rfl
set_option maxRecDepth 20000 in
theorem w440 : (.methodLink "LadderScan$Block" 36 ⟨"java/lang/Math", "min", "(II)I"⟩ : Cond) ∈ CW := cw_in 440 rfl rfl
set_option maxRecDepth 20000 in
theorem w441 : (.static ⟨"java/lang/Math", "min", "(II)I"⟩ : Cond) ∈ CW := cw_in 441 rfl rfl
set_option maxRecDepth 20000 in
theorem w442 : (.code ⟨"java/lang/Math", "min", "(II)I"⟩ prog_11_method_69_code 2 (some .int) : Cond) ∈ CW := cw_in 442 rfl rfl
set_option maxRecDepth 20000 in
theorem w443 : (.methodLink "LadderScan$Block" 42 ⟨"java/lang/Math", "max", "(II)I"⟩ : Cond) ∈ CW := cw_in 443 rfl rfl
set_option maxRecDepth 20000 in
theorem w444 : (.static ⟨"java/lang/Math", "max", "(II)I"⟩ : Cond) ∈ CW := cw_in 444 rfl rfl
set_option maxRecDepth 20000 in
theorem w445 : (.code ⟨"java/lang/Math", "max", "(II)I"⟩ prog_11_method_65_code 2 (some .int) : Cond) ∈ CW := cw_in 445 rfl rfl
set_option maxRecDepth 20000 in
theorem w446 : (.methodLink "LadderScan$Block" 45 ⟨"LadderScan$Memory", "read", "(I)I"⟩ : Cond) ∈ CW := cw_in 446 rfl rfl
set_option maxRecDepth 20000 in
theorem w447 : (.instanceMethod ⟨"LadderScan$Memory", "read", "(I)I"⟩ : Cond) ∈ CW := cw_in 447 rfl rfl
set_option maxRecDepth 20000 in
theorem w448 : (.selects "LadderScan$Memory" ⟨"LadderScan$Memory", "read", "(I)I"⟩ ⟨"LadderScan$Memory", "read", "(I)I"⟩ : Cond) ∈ CW := cw_in 448 rfl rfl
set_option maxRecDepth 20000 in
theorem w450 : (.methodLink "LadderScan$Block" 51 ⟨"LadderScan$Block", "countWith", "(II)I"⟩ : Cond) ∈ CW := cw_in 450 rfl rfl
set_option maxRecDepth 20000 in
theorem w452 : (.instanceMethod ⟨"LadderScan$Block", "countWith", "(II)I"⟩ : Cond) ∈ CW := cw_in 452 rfl rfl
set_option maxRecDepth 20000 in
theorem w454 : (.methodLink "LadderScan$Block" 58 ⟨"LadderScan$Block", "reckon", "(J)J"⟩ : Cond) ∈ CW := cw_in 454 rfl rfl
set_option maxRecDepth 20000 in
theorem w456 : (.instanceMethod ⟨"LadderScan$Block", "reckon", "(J)J"⟩ : Cond) ∈ CW := cw_in 456 rfl rfl
set_option maxRecDepth 20000 in
theorem w458 : (.constantLong "LadderScan$Block" 66 8 : Cond) ∈ CW := cw_in 458 rfl rfl
set_option maxRecDepth 20000 in
theorem w459 : (.methodLink "LadderScan$Block" 68 ⟨"java/lang/Math", "floorDiv", "(JJ)J"⟩ : Cond) ∈ CW := cw_in 459 rfl rfl
set_option maxRecDepth 20000 in
theorem w460 : (.static ⟨"java/lang/Math", "floorDiv", "(JJ)J"⟩ : Cond) ∈ CW := cw_in 460 rfl rfl
set_option maxRecDepth 20000 in
theorem w461 : (.code ⟨"java/lang/Math", "floorDiv", "(JJ)J"⟩ prog_11_method_49_code 6 (some .long) : Cond) ∈ CW := cw_in 461 rfl rfl
set_option maxRecDepth 20000 in
theorem w462 : (.methodLink "LadderScan$Block" 72 ⟨"java/lang/Math", "min", "(JJ)J"⟩ : Cond) ∈ CW := cw_in 462 rfl rfl
set_option maxRecDepth 20000 in
theorem w463 : (.static ⟨"java/lang/Math", "min", "(JJ)J"⟩ : Cond) ∈ CW := cw_in 463 rfl rfl
set_option maxRecDepth 20000 in
theorem w464 : (.code ⟨"java/lang/Math", "min", "(JJ)J"⟩ prog_11_method_70_code 4 (some .long) : Cond) ∈ CW := cw_in 464 rfl rfl
set_option maxRecDepth 20000 in
theorem w465 : (.methodLink "LadderScan$Block" 74 ⟨"java/lang/Math", "max", "(JJ)J"⟩ : Cond) ∈ CW := cw_in 465 rfl rfl
set_option maxRecDepth 20000 in
theorem w466 : (.static ⟨"java/lang/Math", "max", "(JJ)J"⟩ : Cond) ∈ CW := cw_in 466 rfl rfl
set_option maxRecDepth 20000 in
theorem w467 : (.code ⟨"java/lang/Math", "max", "(JJ)J"⟩ prog_11_method_66_code 4 (some .long) : Cond) ∈ CW := cw_in 467 rfl rfl
set_option maxRecDepth 20000 in
theorem w468 : (.methodLink "LadderScan$Block" 62 ⟨"LadderScan$Memory", "store", "(IJ)V"⟩ : Cond) ∈ CW := cw_in 468 rfl rfl
set_option maxRecDepth 20000 in
theorem w469 : (.instanceMethod ⟨"LadderScan$Memory", "store", "(IJ)V"⟩ : Cond) ∈ CW := cw_in 469 rfl rfl
set_option maxRecDepth 20000 in
theorem w470 : (.selects "LadderScan$Memory" ⟨"LadderScan$Memory", "store", "(IJ)V"⟩ ⟨"LadderScan$Memory", "store", "(IJ)V"⟩ : Cond) ∈ CW := cw_in 470 rfl rfl
set_option maxRecDepth 20000 in
theorem w472 : (.constantLong "LadderScan$Memory" 27 (-65536) : Cond) ∈ CW := cw_in 472 rfl rfl
set_option maxRecDepth 20000 in
theorem w473 : (.constantLong "LadderScan$Memory" 29 65536 : Cond) ∈ CW := cw_in 473 rfl rfl
set_option maxRecDepth 20000 in
theorem w474 : (.methodLink "LadderScan$Memory" 31 ⟨"java/lang/Math", "min", "(JJ)J"⟩ : Cond) ∈ CW := cw_in 474 rfl rfl
set_option maxRecDepth 20000 in
theorem w475 : (.methodLink "LadderScan$Memory" 37 ⟨"java/lang/Math", "max", "(JJ)J"⟩ : Cond) ∈ CW := cw_in 475 rfl rfl
set_option maxRecDepth 20000 in
theorem w476 : (.methodLink "LadderScan" 208 ⟨"LadderScan", "withTop", "(II)I"⟩ : Cond) ∈ CW := cw_in 476 rfl rfl
set_option maxRecDepth 20000 in
theorem w477 : (.static ⟨"LadderScan", "withTop", "(II)I"⟩ : Cond) ∈ CW := cw_in 477 rfl rfl
set_option maxRecDepth 20000 in
theorem w479 : (.methodLink "LadderScan" 212 ⟨"LadderScan$Memory", "assign", "(III)V"⟩ : Cond) ∈ CW := cw_in 479 rfl rfl
set_option maxRecDepth 20000 in
theorem w480 : (.instanceMethod ⟨"LadderScan$Memory", "assign", "(III)V"⟩ : Cond) ∈ CW := cw_in 480 rfl rfl
set_option maxRecDepth 20000 in
theorem w481 : (.selects "LadderScan$Memory" ⟨"LadderScan$Memory", "assign", "(III)V"⟩ ⟨"LadderScan$Memory", "assign", "(III)V"⟩ : Cond) ∈ CW := cw_in 481 rfl rfl
set_option maxRecDepth 20000 in
theorem w483 : (.methodLink "LadderScan" 215 ⟨"LadderScan", "stackAfter", "(III)I"⟩ : Cond) ∈ CW := cw_in 483 rfl rfl
set_option maxRecDepth 20000 in
theorem w485 : (.instanceMethod ⟨"LadderScan", "stackAfter", "(III)I"⟩ : Cond) ∈ CW := cw_in 485 rfl rfl
set_option maxRecDepth 20000 in
theorem w487 : (.methodLink "LadderScan" 156 ⟨"LadderScan$Memory", "read", "(I)I"⟩ : Cond) ∈ CW := cw_in 487 rfl rfl
set_option maxRecDepth 20000 in
theorem w488 : (.methodLink "LadderScan" 218 ⟨"LadderScan", "withPushed", "(II)I"⟩ : Cond) ∈ CW := cw_in 488 rfl rfl
set_option maxRecDepth 20000 in
theorem w489 : (.static ⟨"LadderScan", "withPushed", "(II)I"⟩ : Cond) ∈ CW := cw_in 489 rfl rfl
set_option maxRecDepth 20000 in
theorem w491 : (.methodLink "LadderScan" 221 ⟨"LadderScan$Memory", "isAbove", "(II)Z"⟩ : Cond) ∈ CW := cw_in 491 rfl rfl
set_option maxRecDepth 20000 in
theorem w492 : (.instanceMethod ⟨"LadderScan$Memory", "isAbove", "(II)Z"⟩ : Cond) ∈ CW := cw_in 492 rfl rfl
set_option maxRecDepth 20000 in
theorem w493 : (.selects "LadderScan$Memory" ⟨"LadderScan$Memory", "isAbove", "(II)Z"⟩ ⟨"LadderScan$Memory", "isAbove", "(II)Z"⟩ : Cond) ∈ CW := cw_in 493 rfl rfl
set_option maxRecDepth 20000 in
theorem w495 : (.methodLink "LadderScan" 183 ⟨"LadderScan$Memory", "clearOutputWires", "()V"⟩ : Cond) ∈ CW := cw_in 495 rfl rfl
set_option maxRecDepth 20000 in
theorem w496 : (.methodLink "LadderScan" 186 ⟨"LadderScan$Memory", "sendOutputs", "()V"⟩ : Cond) ∈ CW := cw_in 496 rfl rfl
set_option maxRecDepth 20000 in
theorem w497 : (.instanceMethod ⟨"LadderScan$Memory", "sendOutputs", "()V"⟩ : Cond) ∈ CW := cw_in 497 rfl rfl
set_option maxRecDepth 20000 in
theorem w498 : (.selects "LadderScan$Memory" ⟨"LadderScan$Memory", "sendOutputs", "()V"⟩ ⟨"LadderScan$Memory", "sendOutputs", "()V"⟩ : Cond) ∈ CW := cw_in 498 rfl rfl
set_option maxRecDepth 20000 in
theorem w500 : (.methodLink "LadderScan$Memory" 40 ⟨"LadderScan$Memory", "read", "(I)I"⟩ : Cond) ∈ CW := cw_in 500 rfl rfl
set_option maxRecDepth 20000 in
theorem w501 : (.classLink "LadderScan" 146 "java/lang/ArithmeticException" : Cond) ∈ CW := cw_in 501 rfl rfl
set_option maxRecDepth 20000 in
theorem w502 : (.instantiable "java/lang/ArithmeticException" 6 : Cond) ∈ CW := cw_in 502 rfl rfl
set_option maxRecDepth 20000 in
theorem w504 : (.selects "java/lang/ArithmeticException" ⟨"java/lang/Throwable", "fillInStackTrace", "(I)Ljava/lang/Throwable;"⟩ ⟨"java/lang/Throwable", "fillInStackTrace", "(I)Ljava/lang/Throwable;"⟩ : Cond) ∈ CW := cw_in 504 rfl rfl
set_option maxRecDepth 20000 in
theorem w510 : (.methodLink "LadderScan" 148 ⟨"java/lang/ArithmeticException", "<init>", "()V"⟩ : Cond) ∈ CW := cw_in 510 rfl rfl
set_option maxRecDepth 20000 in
theorem w511 : (.instanceMethod ⟨"java/lang/ArithmeticException", "<init>", "()V"⟩ : Cond) ∈ CW := cw_in 511 rfl rfl
set_option maxRecDepth 20000 in
theorem w513 : (.methodLink "java/lang/ArithmeticException" 1 ⟨"java/lang/RuntimeException", "<init>", "()V"⟩ : Cond) ∈ CW := cw_in 513 rfl rfl
set_option maxRecDepth 20000 in
theorem w516 : (.methodLink "LadderScanLaw" 117 ⟨"LadderScanLaw", "bit", "(LLadderScan;I[J)I"⟩ : Cond) ∈ CW := cw_in 516 rfl rfl
set_option maxRecDepth 20000 in
theorem w517 : (.static ⟨"LadderScanLaw", "bit", "(LLadderScan;I[J)I"⟩ : Cond) ∈ CW := cw_in 517 rfl rfl
set_option maxRecDepth 20000 in
theorem w519 : (.methodLink "LadderScanLaw" 48 ⟨"LadderScan", "bit", "(I)I"⟩ : Cond) ∈ CW := cw_in 519 rfl rfl
set_option maxRecDepth 20000 in
theorem w520 : (.instanceMethod ⟨"LadderScan", "bit", "(I)I"⟩ : Cond) ∈ CW := cw_in 520 rfl rfl
set_option maxRecDepth 20000 in
theorem w521 : (.selects "LadderScan" ⟨"LadderScan", "bit", "(I)I"⟩ ⟨"LadderScan", "bit", "(I)I"⟩ : Cond) ∈ CW := cw_in 521 rfl rfl
set_option maxRecDepth 20000 in
theorem w523 : (.methodLink "LadderScanLaw" 120 ⟨"LadderScanLaw", "out", "(LLadderScan;I[J)I"⟩ : Cond) ∈ CW := cw_in 523 rfl rfl
set_option maxRecDepth 20000 in
theorem w524 : (.static ⟨"LadderScanLaw", "out", "(LLadderScan;I[J)I"⟩ : Cond) ∈ CW := cw_in 524 rfl rfl
set_option maxRecDepth 20000 in
theorem w526 : (.methodLink "LadderScanLaw" 51 ⟨"LadderScan", "out", "(I)I"⟩ : Cond) ∈ CW := cw_in 526 rfl rfl
set_option maxRecDepth 20000 in
theorem w527 : (.instanceMethod ⟨"LadderScan", "out", "(I)I"⟩ : Cond) ∈ CW := cw_in 527 rfl rfl
set_option maxRecDepth 20000 in
theorem w528 : (.selects "LadderScan" ⟨"LadderScan", "out", "(I)I"⟩ ⟨"LadderScan", "out", "(I)I"⟩ : Cond) ∈ CW := cw_in 528 rfl rfl
set_option maxRecDepth 20000 in
theorem w530 : (.methodLink "LadderScanLaw" 123 ⟨"LadderScanLaw", "register", "(LLadderScan;I[D)I"⟩ : Cond) ∈ CW := cw_in 530 rfl rfl
set_option maxRecDepth 20000 in
theorem w531 : (.static ⟨"LadderScanLaw", "register", "(LLadderScan;I[D)I"⟩ : Cond) ∈ CW := cw_in 531 rfl rfl
set_option maxRecDepth 20000 in
theorem w533 : (.methodLink "LadderScanLaw" 54 ⟨"LadderScan", "register", "(I)D"⟩ : Cond) ∈ CW := cw_in 533 rfl rfl
set_option maxRecDepth 20000 in
theorem w534 : (.instanceMethod ⟨"LadderScan", "register", "(I)D"⟩ : Cond) ∈ CW := cw_in 534 rfl rfl
set_option maxRecDepth 20000 in
theorem w535 : (.selects "LadderScan" ⟨"LadderScan", "register", "(I)D"⟩ ⟨"LadderScan", "register", "(I)D"⟩ : Cond) ∈ CW := cw_in 535 rfl rfl
set_option maxRecDepth 20000 in
theorem w537 : (.methodLink "LadderScanLaw" 127 ⟨"LadderScanLaw", "state", "(LLadderScan;II[J)I"⟩ : Cond) ∈ CW := cw_in 537 rfl rfl
set_option maxRecDepth 20000 in
theorem w538 : (.static ⟨"LadderScanLaw", "state", "(LLadderScan;II[J)I"⟩ : Cond) ∈ CW := cw_in 538 rfl rfl
set_option maxRecDepth 20000 in
theorem w540 : (.methodLink "LadderScanLaw" 58 ⟨"LadderScan", "state", "(II)I"⟩ : Cond) ∈ CW := cw_in 540 rfl rfl
set_option maxRecDepth 20000 in
theorem w541 : (.instanceMethod ⟨"LadderScan", "state", "(II)I"⟩ : Cond) ∈ CW := cw_in 541 rfl rfl
set_option maxRecDepth 20000 in
theorem w542 : (.selects "LadderScan" ⟨"LadderScan", "state", "(II)I"⟩ ⟨"LadderScan", "state", "(II)I"⟩ : Cond) ∈ CW := cw_in 542 rfl rfl
set_option maxRecDepth 20000 in
theorem w544 : (.methodLink "LadderScanLaw" 130 ⟨"LadderScanLaw", "count", "(LLadderScan;I[J)I"⟩ : Cond) ∈ CW := cw_in 544 rfl rfl
set_option maxRecDepth 20000 in
theorem w545 : (.static ⟨"LadderScanLaw", "count", "(LLadderScan;I[J)I"⟩ : Cond) ∈ CW := cw_in 545 rfl rfl
set_option maxRecDepth 20000 in
theorem w547 : (.methodLink "LadderScanLaw" 61 ⟨"LadderScan", "count", "(I)I"⟩ : Cond) ∈ CW := cw_in 547 rfl rfl
set_option maxRecDepth 20000 in
theorem w548 : (.instanceMethod ⟨"LadderScan", "count", "(I)I"⟩ : Cond) ∈ CW := cw_in 548 rfl rfl
set_option maxRecDepth 20000 in
theorem w549 : (.selects "LadderScan" ⟨"LadderScan", "count", "(I)I"⟩ ⟨"LadderScan", "count", "(I)I"⟩ : Cond) ∈ CW := cw_in 549 rfl rfl
set_option maxRecDepth 20000 in
theorem w551 : (.methodLink "LadderScan" 168 ⟨"LadderScan$Memory", "forcedBits", "()I"⟩ : Cond) ∈ CW := cw_in 551 rfl rfl
set_option maxRecDepth 20000 in
theorem w552 : (.instanceMethod ⟨"LadderScan$Memory", "forcedBits", "()I"⟩ : Cond) ∈ CW := cw_in 552 rfl rfl
set_option maxRecDepth 20000 in
theorem w553 : (.selects "LadderScan$Memory" ⟨"LadderScan$Memory", "forcedBits", "()I"⟩ ⟨"LadderScan$Memory", "forcedBits", "()I"⟩ : Cond) ∈ CW := cw_in 553 rfl rfl
set_option maxRecDepth 20000 in
theorem w555 : (.classLink "LadderScanLaw" 65 "LadderScanModel" : Cond) ∈ CW := cw_in 555 rfl rfl
set_option maxRecDepth 20000 in
theorem w556 : (.instantiable "LadderScanModel" 29 : Cond) ∈ CW := cw_in 556 rfl rfl
set_option maxRecDepth 20000 in
theorem w557 : (.methodLink "LadderScanLaw" 67 ⟨"LadderScanModel", "<init>", "()V"⟩ : Cond) ∈ CW := cw_in 557 rfl rfl
set_option maxRecDepth 20000 in
theorem w558 : (.instanceMethod ⟨"LadderScanModel", "<init>", "()V"⟩ : Cond) ∈ CW := cw_in 558 rfl rfl
set_option maxRecDepth 20000 in
theorem w560 : (.methodLink "LadderScanModel" 1 ⟨"java/lang/Object", "<init>", "()V"⟩ : Cond) ∈ CW := cw_in 560 rfl rfl
set_option maxRecDepth 20000 in
theorem w561 : (.fieldLink "LadderScanModel" 74 "LadderScanModel" "thrown" "I" : Cond) ∈ CW := cw_in 561 rfl rfl
set_option maxRecDepth 20000 in
theorem w562 : (.fieldLink "LadderScanModel" 7 "LadderScanModel" "raw" "[I" : Cond) ∈ CW := cw_in 562 rfl rfl
set_option maxRecDepth 20000 in
theorem w563 : (.fieldLink "LadderScanModel" 13 "LadderScanModel" "forced" "[I" : Cond) ∈ CW := cw_in 563 rfl rfl
set_option maxRecDepth 20000 in
theorem w564 : (.fieldLink "LadderScanModel" 16 "LadderScanModel" "wires" "[I" : Cond) ∈ CW := cw_in 564 rfl rfl
set_option maxRecDepth 20000 in
theorem w565 : (.fieldLink "LadderScanModel" 19 "LadderScanModel" "outs" "[I" : Cond) ∈ CW := cw_in 565 rfl rfl
set_option maxRecDepth 20000 in
theorem w566 : (.fieldLink "LadderScanModel" 22 "LadderScanModel" "registers" "[J" : Cond) ∈ CW := cw_in 566 rfl rfl
set_option maxRecDepth 20000 in
theorem w567 : (.fieldLink "LadderScanModel" 26 "LadderScanModel" "kind" "[I" : Cond) ∈ CW := cw_in 567 rfl rfl
set_option maxRecDepth 20000 in
theorem w568 : (.fieldLink "LadderScanModel" 29 "LadderScanModel" "bp" "[I" : Cond) ∈ CW := cw_in 568 rfl rfl
set_option maxRecDepth 20000 in
theorem w569 : (.fieldLink "LadderScanModel" 32 "LadderScanModel" "bq" "[I" : Cond) ∈ CW := cw_in 569 rfl rfl
set_option maxRecDepth 20000 in
theorem w570 : (.fieldLink "LadderScanModel" 35 "LadderScanModel" "factor" "[J" : Cond) ∈ CW := cw_in 570 rfl rfl
set_option maxRecDepth 20000 in
theorem w571 : (.fieldLink "LadderScanModel" 38 "LadderScanModel" "offset" "[J" : Cond) ∈ CW := cw_in 571 rfl rfl
set_option maxRecDepth 20000 in
theorem w572 : (.fieldLink "LadderScanModel" 41 "LadderScanModel" "output" "[I" : Cond) ∈ CW := cw_in 572 rfl rfl
set_option maxRecDepth 20000 in
theorem w573 : (.fieldLink "LadderScanModel" 44 "LadderScanModel" "count" "[I" : Cond) ∈ CW := cw_in 573 rfl rfl
set_option maxRecDepth 20000 in
theorem w574 : (.fieldLink "LadderScanModel" 47 "LadderScanModel" "was" "[I" : Cond) ∈ CW := cw_in 574 rfl rfl
set_option maxRecDepth 20000 in
theorem w575 : (.fieldLink "LadderScanModel" 96 "LadderScanModel" "blocks" "I" : Cond) ∈ CW := cw_in 575 rfl rfl
set_option maxRecDepth 20000 in
theorem w576 : (.fieldLink "LadderScanModel" 50 "LadderScanModel" "op" "[I" : Cond) ∈ CW := cw_in 576 rfl rfl
set_option maxRecDepth 20000 in
theorem w577 : (.fieldLink "LadderScanModel" 53 "LadderScanModel" "arg" "[I" : Cond) ∈ CW := cw_in 577 rfl rfl
set_option maxRecDepth 20000 in
theorem w578 : (.fieldLink "LadderScanModel" 56 "LadderScanModel" "size" "[I" : Cond) ∈ CW := cw_in 578 rfl rfl
set_option maxRecDepth 20000 in
theorem w579 : (.fieldLink "LadderScanModel" 59 "LadderScanModel" "height" "[I" : Cond) ∈ CW := cw_in 579 rfl rfl
set_option maxRecDepth 20000 in
theorem w580 : (.fieldLink "LadderScanModel" 62 "LadderScanModel" "runOp" "[I" : Cond) ∈ CW := cw_in 580 rfl rfl
set_option maxRecDepth 20000 in
theorem w581 : (.fieldLink "LadderScanModel" 65 "LadderScanModel" "runArg" "[I" : Cond) ∈ CW := cw_in 581 rfl rfl
set_option maxRecDepth 20000 in
theorem w582 : (.fieldLink "LadderScanModel" 68 "LadderScanModel" "runSize" "[I" : Cond) ∈ CW := cw_in 582 rfl rfl
set_option maxRecDepth 20000 in
theorem w583 : (.fieldLink "LadderScanModel" 71 "LadderScanModel" "stack" "[I" : Cond) ∈ CW := cw_in 583 rfl rfl
set_option maxRecDepth 20000 in
theorem w584 : (.fieldLink "LadderScanModel" 143 "LadderScanModel" "top" "I" : Cond) ∈ CW := cw_in 584 rfl rfl
set_option maxRecDepth 20000 in
theorem w585 : (.fieldLink "LadderScanModel" 162 "LadderScanModel" "scans" "I" : Cond) ∈ CW := cw_in 585 rfl rfl
set_option maxRecDepth 20000 in
theorem w586 : (.fieldLink "LadderScanModel" 165 "LadderScanModel" "failed" "I" : Cond) ∈ CW := cw_in 586 rfl rfl
set_option maxRecDepth 20000 in
theorem w587 : (.fieldLink "LadderScanModel" 168 "LadderScanModel" "stopped" "Z" : Cond) ∈ CW := cw_in 587 rfl rfl
set_option maxRecDepth 20000 in
theorem w588 : (.fieldLink "LadderScanModel" 159 "LadderScanModel" "begun" "I" : Cond) ∈ CW := cw_in 588 rfl rfl
set_option maxRecDepth 20000 in
theorem w589 : (.fieldLink "LadderScanModel" 133 "LadderScanModel" "trouble" "I" : Cond) ∈ CW := cw_in 589 rfl rfl
set_option maxRecDepth 20000 in
theorem w649 : (.arrayClass .long : Cond) ∈ CW := cw_in 649 rfl rfl
set_option maxRecDepth 20000 in
theorem w650 : (.methodLink "LadderScanLaw" 74 ⟨"LadderScanModel", "thrown", "()I"⟩ : Cond) ∈ CW := cw_in 650 rfl rfl
set_option maxRecDepth 20000 in
theorem w651 : (.instanceMethod ⟨"LadderScanModel", "thrown", "()I"⟩ : Cond) ∈ CW := cw_in 651 rfl rfl
set_option maxRecDepth 20000 in
theorem w652 : (.selects "LadderScanModel" ⟨"LadderScanModel", "thrown", "()I"⟩ ⟨"LadderScanModel", "thrown", "()I"⟩ : Cond) ∈ CW := cw_in 652 rfl rfl
set_option maxRecDepth 20000 in
theorem w654 : (.methodLink "LadderScanLaw" 73 ⟨"LadderScanModel", "block", "(III)I"⟩ : Cond) ∈ CW := cw_in 654 rfl rfl
set_option maxRecDepth 20000 in
theorem w655 : (.instanceMethod ⟨"LadderScanModel", "block", "(III)I"⟩ : Cond) ∈ CW := cw_in 655 rfl rfl
set_option maxRecDepth 20000 in
theorem w656 : (.selects "LadderScanModel" ⟨"LadderScanModel", "block", "(III)I"⟩ ⟨"LadderScanModel", "block", "(III)I"⟩ : Cond) ∈ CW := cw_in 656 rfl rfl
set_option maxRecDepth 20000 in
theorem w658 : (.methodLink "LadderScanModel" 88 ⟨"LadderScanModel", "in", "(III)Z"⟩ : Cond) ∈ CW := cw_in 658 rfl rfl
set_option maxRecDepth 20000 in
theorem w659 : (.static ⟨"LadderScanModel", "in", "(III)Z"⟩ : Cond) ∈ CW := cw_in 659 rfl rfl
set_option maxRecDepth 20000 in
theorem w661 : (.methodLink "LadderScanModel" 92 ⟨"LadderScanModel", "raise", "(I)I"⟩ : Cond) ∈ CW := cw_in 661 rfl rfl
set_option maxRecDepth 20000 in
theorem w663 : (.instanceMethod ⟨"LadderScanModel", "raise", "(I)I"⟩ : Cond) ∈ CW := cw_in 663 rfl rfl
set_option maxRecDepth 20000 in
theorem w665 : (.methodLink "LadderScanLaw" 83 ⟨"LadderScanModel", "tune", "(IDD)D"⟩ : Cond) ∈ CW := cw_in 665 rfl rfl
set_option maxRecDepth 20000 in
theorem w666 : (.instanceMethod ⟨"LadderScanModel", "tune", "(IDD)D"⟩ : Cond) ∈ CW := cw_in 666 rfl rfl
set_option maxRecDepth 20000 in
theorem w667 : (.selects "LadderScanModel" ⟨"LadderScanModel", "tune", "(IDD)D"⟩ ⟨"LadderScanModel", "tune", "(IDD)D"⟩ : Cond) ∈ CW := cw_in 667 rfl rfl
set_option maxRecDepth 20000 in
theorem w669 : (.methodLink "LadderScanModel" 99 ⟨"LadderScanModel", "number", "(D)Z"⟩ : Cond) ∈ CW := cw_in 669 rfl rfl
set_option maxRecDepth 20000 in
theorem w670 : (.static ⟨"LadderScanModel", "number", "(D)Z"⟩ : Cond) ∈ CW := cw_in 670 rfl rfl
set_option maxRecDepth 20000 in
theorem w672 : (.constantDouble "LadderScanModel" 78 13889101250810609664 : Cond) ∈ CW := cw_in 672 rfl rfl
set_option maxRecDepth 20000 in
theorem w673 : (.constantDouble "LadderScanModel" 80 4665729213955833856 : Cond) ∈ CW := cw_in 673 rfl rfl
set_option maxRecDepth 20000 in
theorem w674 : (.methodLink "LadderScanModel" 103 ⟨"LadderScanModel", "whole", "(D)Z"⟩ : Cond) ∈ CW := cw_in 674 rfl rfl
set_option maxRecDepth 20000 in
theorem w675 : (.static ⟨"LadderScanModel", "whole", "(D)Z"⟩ : Cond) ∈ CW := cw_in 675 rfl rfl
set_option maxRecDepth 20000 in
theorem w677 : (.constantDouble "LadderScanModel" 82 4620693217682128896 : Cond) ∈ CW := cw_in 677 rfl rfl
set_option maxRecDepth 20000 in
theorem w678 : (.methodLink "LadderScanModel" 106 ⟨"LadderScanModel", "eighths", "(D)J"⟩ : Cond) ∈ CW := cw_in 678 rfl rfl
set_option maxRecDepth 20000 in
theorem w679 : (.static ⟨"LadderScanModel", "eighths", "(D)J"⟩ : Cond) ∈ CW := cw_in 679 rfl rfl
set_option maxRecDepth 20000 in
theorem w681 : (.constantDouble "LadderScanModel" 110 4593671619917905920 : Cond) ∈ CW := cw_in 681 rfl rfl
set_option maxRecDepth 20000 in
theorem w682 : (.methodLink "LadderScanLaw" 86 ⟨"LadderScanModel", "step", "(III)I"⟩ : Cond) ∈ CW := cw_in 682 rfl rfl
set_option maxRecDepth 20000 in
theorem w683 : (.instanceMethod ⟨"LadderScanModel", "step", "(III)I"⟩ : Cond) ∈ CW := cw_in 683 rfl rfl
set_option maxRecDepth 20000 in
theorem w684 : (.selects "LadderScanModel" ⟨"LadderScanModel", "step", "(III)I"⟩ ⟨"LadderScanModel", "step", "(III)I"⟩ : Cond) ∈ CW := cw_in 684 rfl rfl
set_option maxRecDepth 20000 in
theorem w686 : (.methodLink "LadderScanModel" 112 ⟨"LadderScanModel", "fits", "(II)Z"⟩ : Cond) ∈ CW := cw_in 686 rfl rfl
set_option maxRecDepth 20000 in
theorem w688 : (.instanceMethod ⟨"LadderScanModel", "fits", "(II)Z"⟩ : Cond) ∈ CW := cw_in 688 rfl rfl
set_option maxRecDepth 20000 in
theorem w690 : (.methodLink "LadderScanModel" 116 ⟨"LadderScanModel", "pushes", "(I)Z"⟩ : Cond) ∈ CW := cw_in 690 rfl rfl
set_option maxRecDepth 20000 in
theorem w691 : (.static ⟨"LadderScanModel", "pushes", "(I)Z"⟩ : Cond) ∈ CW := cw_in 691 rfl rfl
set_option maxRecDepth 20000 in
theorem w693 : (.methodLink "LadderScanModel" 120 ⟨"LadderScanModel", "joins", "(I)Z"⟩ : Cond) ∈ CW := cw_in 693 rfl rfl
set_option maxRecDepth 20000 in
theorem w694 : (.static ⟨"LadderScanModel", "joins", "(I)Z"⟩ : Cond) ∈ CW := cw_in 694 rfl rfl
set_option maxRecDepth 20000 in
theorem w696 : (.methodLink "LadderScanLaw" 90 ⟨"LadderScanModel", "erase", "(I)I"⟩ : Cond) ∈ CW := cw_in 696 rfl rfl
set_option maxRecDepth 20000 in
theorem w697 : (.instanceMethod ⟨"LadderScanModel", "erase", "(I)I"⟩ : Cond) ∈ CW := cw_in 697 rfl rfl
set_option maxRecDepth 20000 in
theorem w698 : (.selects "LadderScanModel" ⟨"LadderScanModel", "erase", "(I)I"⟩ ⟨"LadderScanModel", "erase", "(I)I"⟩ : Cond) ∈ CW := cw_in 698 rfl rfl
set_option maxRecDepth 20000 in
theorem w700 : (.methodLink "LadderScanLaw" 94 ⟨"LadderScanModel", "download", "()I"⟩ : Cond) ∈ CW := cw_in 700 rfl rfl
set_option maxRecDepth 20000 in
theorem w701 : (.instanceMethod ⟨"LadderScanModel", "download", "()I"⟩ : Cond) ∈ CW := cw_in 701 rfl rfl
set_option maxRecDepth 20000 in
theorem w702 : (.selects "LadderScanModel" ⟨"LadderScanModel", "download", "()I"⟩ ⟨"LadderScanModel", "download", "()I"⟩ : Cond) ∈ CW := cw_in 702 rfl rfl
set_option maxRecDepth 20000 in
theorem w704 : (.methodLink "LadderScanLaw" 98 ⟨"LadderScanModel", "wire", "(II)I"⟩ : Cond) ∈ CW := cw_in 704 rfl rfl
set_option maxRecDepth 20000 in
theorem w705 : (.instanceMethod ⟨"LadderScanModel", "wire", "(II)I"⟩ : Cond) ∈ CW := cw_in 705 rfl rfl
set_option maxRecDepth 20000 in
theorem w706 : (.selects "LadderScanModel" ⟨"LadderScanModel", "wire", "(II)I"⟩ ⟨"LadderScanModel", "wire", "(II)I"⟩ : Cond) ∈ CW := cw_in 706 rfl rfl
set_option maxRecDepth 20000 in
theorem w708 : (.methodLink "LadderScanLaw" 102 ⟨"LadderScanModel", "put", "(ID)D"⟩ : Cond) ∈ CW := cw_in 708 rfl rfl
set_option maxRecDepth 20000 in
theorem w709 : (.instanceMethod ⟨"LadderScanModel", "put", "(ID)D"⟩ : Cond) ∈ CW := cw_in 709 rfl rfl
set_option maxRecDepth 20000 in
theorem w710 : (.selects "LadderScanModel" ⟨"LadderScanModel", "put", "(ID)D"⟩ ⟨"LadderScanModel", "put", "(ID)D"⟩ : Cond) ∈ CW := cw_in 710 rfl rfl
set_option maxRecDepth 20000 in
theorem w712 : (.methodLink "LadderScanLaw" 105 ⟨"LadderScanModel", "force", "(II)I"⟩ : Cond) ∈ CW := cw_in 712 rfl rfl
set_option maxRecDepth 20000 in
theorem w713 : (.instanceMethod ⟨"LadderScanModel", "force", "(II)I"⟩ : Cond) ∈ CW := cw_in 713 rfl rfl
set_option maxRecDepth 20000 in
theorem w714 : (.selects "LadderScanModel" ⟨"LadderScanModel", "force", "(II)I"⟩ ⟨"LadderScanModel", "force", "(II)I"⟩ : Cond) ∈ CW := cw_in 714 rfl rfl
set_option maxRecDepth 20000 in
theorem w716 : (.methodLink "LadderScanLaw" 108 ⟨"LadderScanModel", "scan", "(I)I"⟩ : Cond) ∈ CW := cw_in 716 rfl rfl
set_option maxRecDepth 20000 in
theorem w717 : (.instanceMethod ⟨"LadderScanModel", "scan", "(I)I"⟩ : Cond) ∈ CW := cw_in 717 rfl rfl
set_option maxRecDepth 20000 in
theorem w718 : (.selects "LadderScanModel" ⟨"LadderScanModel", "scan", "(I)I"⟩ ⟨"LadderScanModel", "scan", "(I)I"⟩ : Cond) ∈ CW := cw_in 718 rfl rfl
set_option maxRecDepth 20000 in
theorem w720 : (.methodLink "LadderScanModel" 172 ⟨"LadderScanModel", "scanOnce", "()V"⟩ : Cond) ∈ CW := cw_in 720 rfl rfl
set_option maxRecDepth 20000 in
theorem w722 : (.instanceMethod ⟨"LadderScanModel", "scanOnce", "()V"⟩ : Cond) ∈ CW := cw_in 722 rfl rfl
set_option maxRecDepth 20000 in
theorem w724 : (.methodLink "LadderScanModel" 156 ⟨"LadderScanModel", "rung", "(I)I"⟩ : Cond) ∈ CW := cw_in 724 rfl rfl
set_option maxRecDepth 20000 in
theorem w726 : (.instanceMethod ⟨"LadderScanModel", "rung", "(I)I"⟩ : Cond) ∈ CW := cw_in 726 rfl rfl
set_option maxRecDepth 20000 in
theorem w728 : (.methodLink "LadderScanModel" 153 ⟨"LadderScanModel", "perform", "(II)V"⟩ : Cond) ∈ CW := cw_in 728 rfl rfl
set_option maxRecDepth 20000 in
theorem w730 : (.instanceMethod ⟨"LadderScanModel", "perform", "(II)V"⟩ : Cond) ∈ CW := cw_in 730 rfl rfl
set_option maxRecDepth 20000 in
theorem w732 : (.methodLink "LadderScanModel" 136 ⟨"LadderScanModel", "read", "(I)I"⟩ : Cond) ∈ CW := cw_in 732 rfl rfl
set_option maxRecDepth 20000 in
theorem w734 : (.instanceMethod ⟨"LadderScanModel", "read", "(I)I"⟩ : Cond) ∈ CW := cw_in 734 rfl rfl
set_option maxRecDepth 20000 in
theorem w736 : (.methodLink "LadderScanModel" 146 ⟨"LadderScanModel", "push", "(I)V"⟩ : Cond) ∈ CW := cw_in 736 rfl rfl
set_option maxRecDepth 20000 in
theorem w738 : (.instanceMethod ⟨"LadderScanModel", "push", "(I)V"⟩ : Cond) ∈ CW := cw_in 738 rfl rfl
set_option maxRecDepth 20000 in
theorem w740 : (.methodLink "LadderScanModel" 149 ⟨"LadderScanModel", "work", "(II)V"⟩ : Cond) ∈ CW := cw_in 740 rfl rfl
set_option maxRecDepth 20000 in
theorem w742 : (.instanceMethod ⟨"LadderScanModel", "work", "(II)V"⟩ : Cond) ∈ CW := cw_in 742 rfl rfl
set_option maxRecDepth 20000 in
theorem w744 : (.methodLink "LadderScanModel" 139 ⟨"LadderScanModel", "calculate", "(I)V"⟩ : Cond) ∈ CW := cw_in 744 rfl rfl
set_option maxRecDepth 20000 in
theorem w746 : (.instanceMethod ⟨"LadderScanModel", "calculate", "(I)V"⟩ : Cond) ∈ CW := cw_in 746 rfl rfl
set_option maxRecDepth 20000 in
theorem w748 : (.constantLong "LadderScanModel" 123 8 : Cond) ∈ CW := cw_in 748 rfl rfl
set_option maxRecDepth 20000 in
theorem w749 : (.methodLink "LadderScanModel" 125 ⟨"LadderScanModel", "down", "(JJ)J"⟩ : Cond) ∈ CW := cw_in 749 rfl rfl
set_option maxRecDepth 20000 in
theorem w750 : (.static ⟨"LadderScanModel", "down", "(JJ)J"⟩ : Cond) ∈ CW := cw_in 750 rfl rfl
set_option maxRecDepth 20000 in
theorem w752 : (.methodLink "LadderScanModel" 129 ⟨"LadderScanModel", "fit", "(J)J"⟩ : Cond) ∈ CW := cw_in 752 rfl rfl
set_option maxRecDepth 20000 in
theorem w753 : (.static ⟨"LadderScanModel", "fit", "(J)J"⟩ : Cond) ∈ CW := cw_in 753 rfl rfl
set_option maxRecDepth 20000 in
theorem w755 : (.constantLong "LadderScanModel" 84 (-65536) : Cond) ∈ CW := cw_in 755 rfl rfl
set_option maxRecDepth 20000 in
theorem w756 : (.constantLong "LadderScanModel" 86 65536 : Cond) ∈ CW := cw_in 756 rfl rfl
set_option maxRecDepth 20000 in
theorem w757 : (.methodLink "LadderScanLaw" 112 ⟨"LadderScanModel", "restart", "()I"⟩ : Cond) ∈ CW := cw_in 757 rfl rfl
set_option maxRecDepth 20000 in
theorem w758 : (.instanceMethod ⟨"LadderScanModel", "restart", "()I"⟩ : Cond) ∈ CW := cw_in 758 rfl rfl
set_option maxRecDepth 20000 in
theorem w759 : (.selects "LadderScanModel" ⟨"LadderScanModel", "restart", "()I"⟩ ⟨"LadderScanModel", "restart", "()I"⟩ : Cond) ∈ CW := cw_in 759 rfl rfl
set_option maxRecDepth 20000 in
theorem w761 : (.methodLink "LadderScanLaw" 116 ⟨"LadderScanModel", "fail", "()I"⟩ : Cond) ∈ CW := cw_in 761 rfl rfl
set_option maxRecDepth 20000 in
theorem w762 : (.instanceMethod ⟨"LadderScanModel", "fail", "()I"⟩ : Cond) ∈ CW := cw_in 762 rfl rfl
set_option maxRecDepth 20000 in
theorem w763 : (.selects "LadderScanModel" ⟨"LadderScanModel", "fail", "()I"⟩ ⟨"LadderScanModel", "fail", "()I"⟩ : Cond) ∈ CW := cw_in 763 rfl rfl
set_option maxRecDepth 20000 in
theorem w765 : (.methodLink "LadderScanLaw" 119 ⟨"LadderScanModel", "bit", "(I)I"⟩ : Cond) ∈ CW := cw_in 765 rfl rfl
set_option maxRecDepth 20000 in
theorem w766 : (.instanceMethod ⟨"LadderScanModel", "bit", "(I)I"⟩ : Cond) ∈ CW := cw_in 766 rfl rfl
set_option maxRecDepth 20000 in
theorem w767 : (.selects "LadderScanModel" ⟨"LadderScanModel", "bit", "(I)I"⟩ ⟨"LadderScanModel", "bit", "(I)I"⟩ : Cond) ∈ CW := cw_in 767 rfl rfl
set_option maxRecDepth 20000 in
theorem w769 : (.methodLink "LadderScanLaw" 122 ⟨"LadderScanModel", "out", "(I)I"⟩ : Cond) ∈ CW := cw_in 769 rfl rfl
set_option maxRecDepth 20000 in
theorem w770 : (.instanceMethod ⟨"LadderScanModel", "out", "(I)I"⟩ : Cond) ∈ CW := cw_in 770 rfl rfl
set_option maxRecDepth 20000 in
theorem w771 : (.selects "LadderScanModel" ⟨"LadderScanModel", "out", "(I)I"⟩ ⟨"LadderScanModel", "out", "(I)I"⟩ : Cond) ∈ CW := cw_in 771 rfl rfl
set_option maxRecDepth 20000 in
theorem w773 : (.methodLink "LadderScanLaw" 126 ⟨"LadderScanModel", "register", "(I)D"⟩ : Cond) ∈ CW := cw_in 773 rfl rfl
set_option maxRecDepth 20000 in
theorem w774 : (.instanceMethod ⟨"LadderScanModel", "register", "(I)D"⟩ : Cond) ∈ CW := cw_in 774 rfl rfl
set_option maxRecDepth 20000 in
theorem w775 : (.selects "LadderScanModel" ⟨"LadderScanModel", "register", "(I)D"⟩ ⟨"LadderScanModel", "register", "(I)D"⟩ : Cond) ∈ CW := cw_in 775 rfl rfl
set_option maxRecDepth 20000 in
theorem w777 : (.methodLink "LadderScanLaw" 129 ⟨"LadderScanModel", "state", "(II)I"⟩ : Cond) ∈ CW := cw_in 777 rfl rfl
set_option maxRecDepth 20000 in
theorem w778 : (.instanceMethod ⟨"LadderScanModel", "state", "(II)I"⟩ : Cond) ∈ CW := cw_in 778 rfl rfl
set_option maxRecDepth 20000 in
theorem w779 : (.selects "LadderScanModel" ⟨"LadderScanModel", "state", "(II)I"⟩ ⟨"LadderScanModel", "state", "(II)I"⟩ : Cond) ∈ CW := cw_in 779 rfl rfl
set_option maxRecDepth 20000 in
theorem w781 : (.methodLink "LadderScanLaw" 132 ⟨"LadderScanModel", "count", "(I)I"⟩ : Cond) ∈ CW := cw_in 781 rfl rfl
set_option maxRecDepth 20000 in
theorem w782 : (.instanceMethod ⟨"LadderScanModel", "count", "(I)I"⟩ : Cond) ∈ CW := cw_in 782 rfl rfl
set_option maxRecDepth 20000 in
theorem w783 : (.selects "LadderScanModel" ⟨"LadderScanModel", "count", "(I)I"⟩ ⟨"LadderScanModel", "count", "(I)I"⟩ : Cond) ∈ CW := cw_in 783 rfl rfl
set_option maxRecDepth 20000 in
theorem w785 : (.constantDouble "LadderScanLaw" 78 4593671619917905920 : Cond) ∈ CW := cw_in 785 rfl rfl
set_option maxRecDepth 20000 in
theorem w786 : (.arrayClass .double : Cond) ∈ CW := cw_in 786 rfl rfl
theorem s0 : (Cond.selects "java/lang/Throwable" ⟨"java/lang/Throwable", "fillInStackTrace", "(I)Ljava/lang/Throwable;"⟩ ⟨"java/lang/Throwable", "fillInStackTrace", "(I)Ljava/lang/Throwable;"⟩) ∈ CW := cw_sel 0 rfl rfl
theorem s1 : (Cond.selects "LadderScan" ⟨"LadderScan", "isMade", "(I)Z"⟩ ⟨"LadderScan", "isMade", "(I)Z"⟩) ∈ CW := cw_sel 1 rfl rfl
theorem s2 : (Cond.selects "LadderScan" ⟨"LadderScan", "isStep", "(II)Z"⟩ ⟨"LadderScan", "isStep", "(II)Z"⟩) ∈ CW := cw_sel 2 rfl rfl
theorem s3 : (Cond.selects "LadderScan" ⟨"LadderScan", "scanOnce", "()I"⟩ ⟨"LadderScan", "scanOnce", "()I"⟩) ∈ CW := cw_sel 3 rfl rfl
theorem s4 : (Cond.selects "LadderScan" ⟨"LadderScan", "runProgram", "()I"⟩ ⟨"LadderScan", "runProgram", "()I"⟩) ∈ CW := cw_sel 4 rfl rfl
theorem s5 : (Cond.selects "LadderScan" ⟨"LadderScan", "runRung", "(I)I"⟩ ⟨"LadderScan", "runRung", "(I)I"⟩) ∈ CW := cw_sel 5 rfl rfl
theorem s6 : (Cond.selects "LadderScan$Block" ⟨"LadderScan$Block", "countWith", "(II)I"⟩ ⟨"LadderScan$Block", "countWith", "(II)I"⟩) ∈ CW := cw_sel 6 rfl rfl
theorem s7 : (Cond.selects "LadderScan$Block" ⟨"LadderScan$Block", "reckon", "(J)J"⟩ ⟨"LadderScan$Block", "reckon", "(J)J"⟩) ∈ CW := cw_sel 7 rfl rfl
theorem s8 : (Cond.selects "LadderScan" ⟨"LadderScan", "stackAfter", "(III)I"⟩ ⟨"LadderScan", "stackAfter", "(III)I"⟩) ∈ CW := cw_sel 8 rfl rfl
theorem s9 : (Cond.selects "LadderScanModel" ⟨"LadderScanModel", "raise", "(I)I"⟩ ⟨"LadderScanModel", "raise", "(I)I"⟩) ∈ CW := cw_sel 9 rfl rfl
theorem s10 : (Cond.selects "LadderScanModel" ⟨"LadderScanModel", "fits", "(II)Z"⟩ ⟨"LadderScanModel", "fits", "(II)Z"⟩) ∈ CW := cw_sel 10 rfl rfl
theorem s11 : (Cond.selects "LadderScanModel" ⟨"LadderScanModel", "scanOnce", "()V"⟩ ⟨"LadderScanModel", "scanOnce", "()V"⟩) ∈ CW := cw_sel 11 rfl rfl
theorem s12 : (Cond.selects "LadderScanModel" ⟨"LadderScanModel", "rung", "(I)I"⟩ ⟨"LadderScanModel", "rung", "(I)I"⟩) ∈ CW := cw_sel 12 rfl rfl
theorem s13 : (Cond.selects "LadderScanModel" ⟨"LadderScanModel", "perform", "(II)V"⟩ ⟨"LadderScanModel", "perform", "(II)V"⟩) ∈ CW := cw_sel 13 rfl rfl
theorem s14 : (Cond.selects "LadderScanModel" ⟨"LadderScanModel", "read", "(I)I"⟩ ⟨"LadderScanModel", "read", "(I)I"⟩) ∈ CW := cw_sel 14 rfl rfl
theorem s15 : (Cond.selects "LadderScanModel" ⟨"LadderScanModel", "push", "(I)V"⟩ ⟨"LadderScanModel", "push", "(I)V"⟩) ∈ CW := cw_sel 15 rfl rfl
theorem s16 : (Cond.selects "LadderScanModel" ⟨"LadderScanModel", "work", "(II)V"⟩ ⟨"LadderScanModel", "work", "(II)V"⟩) ∈ CW := cw_sel 16 rfl rfl
theorem s17 : (Cond.selects "LadderScanModel" ⟨"LadderScanModel", "calculate", "(I)V"⟩ ⟨"LadderScanModel", "calculate", "(I)V"⟩) ∈ CW := cw_sel 17 rfl rfl

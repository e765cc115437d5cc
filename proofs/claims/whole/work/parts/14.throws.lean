theorem tx_T_54 : ∀ w ∈ vx_atS "CarrierText" 54 "java/lang/IllegalArgumentException" ["java/lang/RuntimeException", "java/lang/Exception"], w ∈ lw_tbl ∧ okW w = true ∧ vx_ot w = true := by decide +kernel
theorem th_T_52 : TH "CarrierText" 50 52 54 "java/lang/IllegalArgumentException" "no sign of a text" := ⟨by decide +kernel, tw_171, tw_10, tw_213, tx_T_54⟩
theorem tx_T_64 : ∀ w ∈ vx_atS "CarrierText" 64 "java/lang/UnsupportedOperationException" ["java/lang/RuntimeException", "java/lang/Exception"], w ∈ lw_tbl ∧ okW w = true ∧ vx_ot w = true := by decide +kernel
theorem th_T_62 : TH "CarrierText" 60 62 64 "java/lang/UnsupportedOperationException" "the text is full" := ⟨by decide +kernel, tw_244, tw_11, tw_253, tx_T_64⟩
theorem th_T_69 : TH "CarrierText" 50 69 54 "java/lang/IllegalArgumentException" "no day" := ⟨by decide +kernel, tw_171, tw_10, tw_267, tx_T_54⟩
theorem th_T_92 : TH "CarrierText" 60 92 64 "java/lang/UnsupportedOperationException" "no room for this edition" := ⟨by decide +kernel, tw_244, tw_11, tw_403, tx_T_64⟩
theorem th_T_113 : TH "CarrierText" 50 113 54 "java/lang/IllegalArgumentException" "no such pack" := ⟨by decide +kernel, tw_171, tw_10, tw_434, tx_T_54⟩
theorem tx_T_174 : ∀ w ∈ vx_atS "CarrierText" 174 "java/lang/IllegalStateException" ["java/lang/RuntimeException", "java/lang/Exception"], w ∈ lw_tbl ∧ okW w = true ∧ vx_ot w = true := by decide +kernel
theorem th_T_220 : TH "CarrierText" 170 220 174 "java/lang/IllegalStateException" "no edition acts" := ⟨by decide +kernel, tw_439, tw_13, tw_448, tx_T_174⟩
theorem th_T_155 : TH "CarrierText" 50 155 54 "java/lang/IllegalArgumentException" "no weight" := ⟨by decide +kernel, tw_171, tw_10, tw_503, tx_T_54⟩
theorem tx_T_226 : ∀ w ∈ (Bundle.ownAtomsX "CarrierText" 226 "java/util/NoSuchElementException" 13 rx13 ["java/lang/RuntimeException", "java/lang/Exception"]).filter vx_no, w ∈ lw_tbl ∧ okW w = true ∧ vx_ot w = true := by decide +kernel
theorem th_T_227 : THX "CarrierText" 222 227 226 "java/util/NoSuchElementException" "no such service" := ⟨by decide +kernel, tw_487, tw_14, tw_496, tx_T_226⟩
theorem th_T_160 : TH "CarrierText" 50 160 54 "java/lang/IllegalArgumentException" "no postal code" := ⟨by decide +kernel, tw_171, tw_10, tw_514, tx_T_54⟩
theorem th_T_165 : TH "CarrierText" 50 165 54 "java/lang/IllegalArgumentException" "no hour" := ⟨by decide +kernel, tw_171, tw_10, tw_527, tx_T_54⟩
theorem th_T_172 : TH "CarrierText" 170 172 174 "java/lang/IllegalStateException" "the hours are not told" := ⟨by decide +kernel, tw_439, tw_13, tw_529, tx_T_174⟩
theorem th_T_224 : THX "CarrierText" 222 224 226 "java/util/NoSuchElementException" "no such edition" := ⟨by decide +kernel, tw_487, tw_14, tw_566, tx_T_226⟩
theorem th_T_196 : TH "CarrierText" 50 196 54 "java/lang/IllegalArgumentException" "no such sign was printed" := ⟨by decide +kernel, tw_171, tw_10, tw_585, tx_T_54⟩
theorem th_T_198 : TH "CarrierText" 50 198 54 "java/lang/IllegalArgumentException" "no sign of a label" := ⟨by decide +kernel, tw_171, tw_10, tw_593, tx_T_54⟩
theorem th_T_200 : TH "CarrierText" 60 200 64 "java/lang/UnsupportedOperationException" "the label is full" := ⟨by decide +kernel, tw_244, tw_11, tw_594, tx_T_64⟩
theorem th_T_215 : TH "CarrierText" 50 215 54 "java/lang/IllegalArgumentException" "nothing is told of this" := ⟨by decide +kernel, tw_171, tw_10, tw_628, tx_T_54⟩

/-! THE SAME ON ANOTHER LAYOUT -/
section ZIX
variable {n : Nat} {z y : ix_Z}
theorem zi_f_X12_faultOfTape_87 (hz : ly_z z) (hy : ly_z y) {d : ix_D2} : f_X12_faultOfTape_87 n z 125 d = f_X12_faultOfTape_87 n y 125 d := by
  unfold f_X12_faultOfTape_87
  simp only [ix_bd1, Option.bind_some, ly_o125 hz, ly_o125 hy]
theorem zi_f_X12_byteAt (hz : ly_z z) (hy : ly_z y) {x1 : Int32} {d : ix_D2} : f_X12_byteAt n z 125 x1 d = f_X12_byteAt n y 125 x1 d := by
  unfold f_X12_byteAt
  simp only [ix_bd1, Option.bind_some, ly_o125 hz, ly_r125_7 hz, ly_i130 hz, ly_o125 hy, ly_r125_7 hy, ly_i130 hy]
theorem zi_f_X12_endPart_126 (hz : ly_z z) (hy : ly_z y) {d : ix_D2} : f_X12_endPart_126 n z 125 d = f_X12_endPart_126 n y 125 d := by
  unfold f_X12_endPart_126
  simp only [ix_bd1, Option.bind_some, ly_o125 hz, ly_o125 hy]
theorem zi_f_X12_endPart_165 (hz : ly_z z) (hy : ly_z y) {x1 : Int32} {d : ix_D2} : f_X12_endPart_165 n z 125 x1 d = f_X12_endPart_165 n y 125 x1 d := by
  unfold f_X12_endPart_165
  simp only [ix_bd1, Option.bind_some, ly_o125 hz, ly_r125_45 hz, ly_i154 hz, ly_r125_47 hz, ly_i155 hz, ly_r125_48 hz, ly_i156 hz, ly_o125 hy, ly_r125_45 hy, ly_i154 hy, ly_r125_47 hy, ly_i155 hy, ly_r125_48 hy, ly_i156 hy]
theorem zi_f_X12_endPart_143 (hz : ly_z z) (hy : ly_z y) {x1 : Int32} {x2 : Int32} {x3 : Int32} {d : ix_D2} : f_X12_endPart_143 n z 125 x1 x2 x3 d = f_X12_endPart_143 n y 125 x1 x2 x3 d := by
  unfold f_X12_endPart_143
  simp only [ix_bd1, Option.bind_some, ly_o125 hz, ly_r125_48 hz, ly_i156 hz, ly_o125 hy, ly_r125_48 hy, ly_i156 hy, zi_f_X12_endPart_165 hz hy]
theorem zi_f_X12_endPart_105 (hz : ly_z z) (hy : ly_z y) {x1 : Int32} {x2 : Int32} {s0 : Int32} {d : ix_D2} : f_X12_endPart_105 n z 125 x1 x2 s0 d = f_X12_endPart_105 n y 125 x1 x2 s0 d := by
  unfold f_X12_endPart_105
  simp only [ix_bd1, Option.bind_some, ly_o125 hz, ly_r125_48 hz, ly_i156 hz, ly_o125 hy, ly_r125_48 hy, ly_i156 hy, zi_f_X12_endPart_126 hz hy, zi_f_X12_endPart_143 hz hy]
theorem zi_f_X12_endPart_54 (hz : ly_z z) (hy : ly_z y) {d : ix_D2} : f_X12_endPart_54 n z 125 d = f_X12_endPart_54 n y 125 d := by
  unfold f_X12_endPart_54
  simp only [ix_bd1, Option.bind_some, ly_o125 hz, ly_r125_47 hz, ly_i155 hz, ly_r125_48 hz, ly_i156 hz, ly_o125 hy, ly_r125_47 hy, ly_i155 hy, ly_r125_48 hy, ly_i156 hy, zi_f_X12_byteAt hz hy, zi_f_X12_endPart_105 hz hy]
theorem zi_b_X12_endPart_0 (hz : ly_z z) (hy : ly_z y) {rec0 : ix_D2 → Option (Int32 × ix_D2)} {d : ix_D2} : b_X12_endPart_0 n z 125 rec0 d = b_X12_endPart_0 n y 125 rec0 d := by
  unfold b_X12_endPart_0
  simp only [ix_bd1, Option.bind_some, ly_o125 hz, ly_r125_45 hz, ly_i154 hz, ly_r125_47 hz, ly_i155 hz, ly_o125 hy, ly_r125_45 hy, ly_i154 hy, ly_r125_47 hy, ly_i155 hy, zi_f_X12_endPart_54 hz hy]
theorem zi_f_X12_endPart_0 (hz : ly_z z) (hy : ly_z y) {d : ix_D2} : f_X12_endPart_0 n z 125 d = f_X12_endPart_0 n y 125 d := by
  unfold f_X12_endPart_0
  rw [show b_X12_endPart_0 n z 125 = b_X12_endPart_0 n y 125 from by funext; exact zi_b_X12_endPart_0 hz hy]
theorem zi_f_X12_endPart (hz : ly_z z) (hy : ly_z y) {d : ix_D2} : f_X12_endPart n z 125 d = f_X12_endPart n y 125 d := by
  unfold f_X12_endPart
  simp only [ix_bd1, Option.bind_some, ly_o125 hz, ly_o125 hy, zi_f_X12_endPart_0 hz hy]
theorem zi_f_X12_faultOfTape_54 (hz : ly_z z) (hy : ly_z y) {rec32 : Int32 → ix_D2 → Option (Int32 × ix_D2)} {s0 : Int32} {d : ix_D2} : f_X12_faultOfTape_54 n z rec32 125 s0 d = f_X12_faultOfTape_54 n y rec32 125 s0 d := by
  unfold f_X12_faultOfTape_54
  simp only [ix_bd1, Option.bind_some, ly_o125 hz, ly_o125 hy]
theorem zi_f_X12_isDigit (hz : ly_z z) (hy : ly_z y) {x0 : Int32} {d : ix_D2} : f_X12_isDigit n z x0 d = f_X12_isDigit n y x0 d := by
  unfold f_X12_isDigit
  simp only [ix_bd1, Option.bind_some, ly_o125 hz, ly_o125 hy]
theorem zi_f_X12_beginPart_120 (hz : ly_z z) (hy : ly_z y) {x2 : Int32} {x3 : Int32} {d : ix_D2} : f_X12_beginPart_120 n z 125 x2 x3 d = f_X12_beginPart_120 n y 125 x2 x3 d := by
  unfold f_X12_beginPart_120
  simp only [ix_bd1, Option.bind_some, ly_o125 hz, ly_r125_41 hz, ly_i151 hz, ly_r125_45 hz, ly_i154 hz, ly_o125 hy, ly_r125_41 hy, ly_i151 hy, ly_r125_45 hy, ly_i154 hy, zi_f_X12_byteAt hz hy, zi_f_X12_isDigit hz hy]
theorem zi_b_X12_beginPart_68 (hz : ly_z z) (hy : ly_z y) {rec68 : Int32 → Int32 → ix_D2 → Option (Int32 × ix_D2)} {x2 : Int32} {x3 : Int32} {d : ix_D2} : b_X12_beginPart_68 n z 125 rec68 x2 x3 d = b_X12_beginPart_68 n y 125 rec68 x2 x3 d := by
  unfold b_X12_beginPart_68
  simp only [ix_bd1, Option.bind_some, ly_o125 hz, ly_o125 hy, zi_f_X12_beginPart_120 hz hy, zi_f_X12_byteAt hz hy, zi_f_X12_isDigit hz hy]
theorem zi_f_X12_beginPart_68 (hz : ly_z z) (hy : ly_z y) {x2 : Int32} {x3 : Int32} {d : ix_D2} : f_X12_beginPart_68 n z 125 x2 x3 d = f_X12_beginPart_68 n y 125 x2 x3 d := by
  unfold f_X12_beginPart_68
  rw [show b_X12_beginPart_68 n z 125 = b_X12_beginPart_68 n y 125 from by funext; exact zi_b_X12_beginPart_68 hz hy]
theorem zi_f_X12_beginPart_255 (hz : ly_z z) (hy : ly_z y) {x1 : Int32} {d : ix_D2} : f_X12_beginPart_255 n z 125 x1 d = f_X12_beginPart_255 n y 125 x1 d := by
  unfold f_X12_beginPart_255
  simp only [ix_bd1, Option.bind_some, ly_o125 hz, ly_r125_47 hz, ly_i155 hz, ly_r125_48 hz, ly_i156 hz, ly_o125 hy, ly_r125_47 hy, ly_i155 hy, ly_r125_48 hy, ly_i156 hy, zi_f_X12_byteAt hz hy]
theorem zi_f_X12_beginPart_48 (hz : ly_z z) (hy : ly_z y) {x1 : Int32} {d : ix_D2} : f_X12_beginPart_48 n z 125 x1 d = f_X12_beginPart_48 n y 125 x1 d := by
  unfold f_X12_beginPart_48
  simp only [ix_bd1, Option.bind_some, ly_o125 hz, ly_r125_47 hz, ly_i155 hz, ly_o125 hy, ly_r125_47 hy, ly_i155 hy, zi_f_X12_beginPart_68 hz hy, zi_f_X12_beginPart_255 hz hy]
theorem zi_f_X12_beginPart (hz : ly_z z) (hy : ly_z y) {d : ix_D2} : f_X12_beginPart n z 125 d = f_X12_beginPart n y 125 d := by
  unfold f_X12_beginPart
  simp only [ix_bd1, Option.bind_some, ly_o125 hz, ly_r125_47 hz, ly_i155 hz, ly_r125_48 hz, ly_i156 hz, ly_o125 hy, ly_r125_47 hy, ly_i155 hy, ly_r125_48 hy, ly_i156 hy, zi_f_X12_byteAt hz hy, zi_f_X12_beginPart_48 hz hy]
theorem zi_b_X12_faultOfTape_32 (hz : ly_z z) (hy : ly_z y) {rec32 : Int32 → ix_D2 → Option (Int32 × ix_D2)} {x1 : Int32} {d : ix_D2} : b_X12_faultOfTape_32 n z 125 rec32 x1 d = b_X12_faultOfTape_32 n y 125 rec32 x1 d := by
  unfold b_X12_faultOfTape_32
  simp only [ix_bd1, Option.bind_some, ly_o125 hz, ly_o125 hy, zi_f_X12_faultOfTape_87 hz hy, zi_f_X12_endPart hz hy, zi_f_X12_faultOfTape_54 hz hy, zi_f_X12_beginPart hz hy]
theorem zi_f_X12_faultOfTape_32 (hz : ly_z z) (hy : ly_z y) {x1 : Int32} {d : ix_D2} : f_X12_faultOfTape_32 n z 125 x1 d = f_X12_faultOfTape_32 n y 125 x1 d := by
  unfold f_X12_faultOfTape_32
  rw [show b_X12_faultOfTape_32 n z 125 = b_X12_faultOfTape_32 n y 125 from by funext; exact zi_b_X12_faultOfTape_32 hz hy]
theorem zi_f_X12_faultOfTape (hz : ly_z z) (hy : ly_z y) {d : ix_D2} : f_X12_faultOfTape n z 125 d = f_X12_faultOfTape n y 125 d := by
  unfold f_X12_faultOfTape
  simp only [ix_bd1, Option.bind_some, ly_o125 hz, ly_o125 hy, zi_f_X12_faultOfTape_32 hz hy]
end ZIX

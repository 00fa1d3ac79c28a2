/-! the three throws of the class -/
def cIAE : String := "java/lang/IllegalArgumentException"
theorem th_IAE : THk RX5 "java/lang/IllegalArgumentException" 56 60 := ⟨by decide +kernel, (TB_mem (i := 604) (by decide +kernel) (by decide +kernel)), (TB_mem (i := 81) (by decide +kernel) (by decide +kernel)), by decide +kernel, by decide +kernel, (TN_mem (i := 606) (by decide +kernel) (by decide +kernel)), by decide +kernel⟩
def cISE : String := "java/lang/IllegalStateException"
theorem th_ISE : THk RX5 "java/lang/IllegalStateException" 70 74 := ⟨by decide +kernel, (TB_mem (i := 672) (by decide +kernel) (by decide +kernel)), (TB_mem (i := 82) (by decide +kernel) (by decide +kernel)), by decide +kernel, by decide +kernel, (TN_mem (i := 674) (by decide +kernel) (by decide +kernel)), by decide +kernel⟩
def cIOB : String := "java/lang/IndexOutOfBoundsException"
theorem th_IOB : THk RX5 "java/lang/IndexOutOfBoundsException" 90 94 := ⟨by decide +kernel, (TB_mem (i := 696) (by decide +kernel) (by decide +kernel)), (TB_mem (i := 84) (by decide +kernel) (by decide +kernel)), by decide +kernel, by decide +kernel, (TN_mem (i := 698) (by decide +kernel) (by decide +kernel)), by decide +kernel⟩

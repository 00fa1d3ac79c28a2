/-! the three throws of the class -/
def cIAE : String := "java/lang/IllegalArgumentException"
theorem th_IAE : THk RX5 "java/lang/IllegalArgumentException" 56 60 := ⟨by decide +kernel, (TB_mem (i := 603) (by decide +kernel) (by decide +kernel)), (TB_mem (i := 81) (by decide +kernel) (by decide +kernel)), by decide +kernel, by decide +kernel, (TN_mem (i := 605) (by decide +kernel) (by decide +kernel)), by decide +kernel⟩
def cISE : String := "java/lang/IllegalStateException"
theorem th_ISE : THk RX5 "java/lang/IllegalStateException" 70 74 := ⟨by decide +kernel, (TB_mem (i := 671) (by decide +kernel) (by decide +kernel)), (TB_mem (i := 82) (by decide +kernel) (by decide +kernel)), by decide +kernel, by decide +kernel, (TN_mem (i := 673) (by decide +kernel) (by decide +kernel)), by decide +kernel⟩
def cIOB : String := "java/lang/IndexOutOfBoundsException"
theorem th_IOB : THk RX5 "java/lang/IndexOutOfBoundsException" 90 94 := ⟨by decide +kernel, (TB_mem (i := 695) (by decide +kernel) (by decide +kernel)), (TB_mem (i := 84) (by decide +kernel) (by decide +kernel)), by decide +kernel, by decide +kernel, (TN_mem (i := 697) (by decide +kernel) (by decide +kernel)), by decide +kernel⟩

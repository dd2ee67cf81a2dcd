theorem tw_50 : am_tw 50 54 "java/lang/IllegalArgumentException" := am_twt 50 54 _ (by decide +kernel) (by decide +kernel)
theorem tw_61 : am_tw 61 65 "java/lang/IllegalStateException" := am_twt 61 65 _ (by decide +kernel) (by decide +kernel)
theorem tw_79 : am_tw 79 83 "java/lang/IndexOutOfBoundsException" := am_twt 79 83 _ (by decide +kernel) (by decide +kernel)

noncomputable def zrL_law_0 : List ZR := zc 0 true (.new 8) 3 (zc 3 true (.dup) 1 (zc 4 true (.invokespecial 15) 3 (zc 7 true (.astore_n 1) 1 (zc 8 true (.new 16) 3 (zc 11 true (.dup) 1 (zc 12 true (.invokespecial 18) 3 (zc 15 true (.astore_n 2) 1 (zc 16 true (.iconst 1) 1 (zc 17 true (.newarray .long) 2 (zc 19 true (.astore_n 3) 1 (zc 20 true (.iconst 0) 1 (zc 21 true (.istore 4) 2 (zc 23 true (.iload 4) 2 (zc 25 true (.aload_n 0) 1 (zc 26 true (.arraylength) 1 (zc 27 true (.bipush 6) 2 (zc 29 true (.isub) 1 (zc 30 true (.if_icmp .gt 1929) 3 (zc 33 true (.aload_n 0) 1 (zc 34 true (.iload 4) 2 (zc 36 true (.iaload) 1 (zc 37 true (.bipush 63) 2 (zc 39 true (.iand) 1 (zc 40 false (.nop) 216 (zc 256 true (.aload_n 1) 1 (zc 257 true (.aload_n 0) 1 (zc 258 true (.iload 4) 2 (zc 260 true (.iconst 1) 1 (zc 261 true (.iadd) 1 (zc 262 true (.iaload) 1 (zc 263 true (.aload_n 0) 1 (zc 264 true (.iload 4) 2 (zc 266 true (.iconst 2) 1 (zc 267 true (.iadd) 1 (zc 268 true (.iaload) 1 (zc 269 true (.aload_n 0) 1 (zc 270 true (.iload 4) 2 (zc 272 true (.iconst 3) 1 (zc 273 true (.iadd) 1 (zc 274 true (.iaload) 1 (zc 275 true (.aload_n 0) 1 (zc 276 true (.iload 4) 2 (zc 278 true (.iconst 4) 1 (zc 279 true (.iadd) 1 (zc 280 true (.iaload) 1 (zc 281 true (.aload_n 0) 1 (zc 282 true (.iload 4) 2 (zc 284 true (.iconst 5) 1 (zc 285 true (.iadd) 1 (zc 286 true (.iaload) 1 (zc 287 true (.invokevirtual 19) 3 (zc 290 true (.pop) 1 (zc 291 true (.aload_n 2) 1 (zc 292 true (.aload_n 0) 1 (zc 293 true (.iload 4) 2 (zc 295 true (.iconst 1) 1 (zc 296 true (.iadd) 1 (zc 297 true (.iaload) 1 (zc 298 true (.aload_n 0) 1 (zc 299 true (.iload 4) 2 (zc 301 true (.iconst 2) 1 (zc 302 true (.iadd) 1 (zc 303 true (.iaload) 1 ([]))))))))))))))))))))))))))))))))))))))))))))))))))))))))))))))))
theorem zrL_law_0_ok : zck 0 ((zby cL_law).drop 0) zrL_law_0 = true := by decide +kernel
noncomputable def zrL_law_1 : List ZR := zc 304 true (.aload_n 0) 1 (zc 305 true (.iload 4) 2 (zc 307 true (.iconst 3) 1 (zc 308 true (.iadd) 1 (zc 309 true (.iaload) 1 (zc 310 true (.aload_n 0) 1 (zc 311 true (.iload 4) 2 (zc 313 true (.iconst 4) 1 (zc 314 true (.iadd) 1 (zc 315 true (.iaload) 1 (zc 316 true (.aload_n 0) 1 (zc 317 true (.iload 4) 2 (zc 319 true (.iconst 5) 1 (zc 320 true (.iadd) 1 (zc 321 true (.iaload) 1 (zc 322 true (.invokevirtual 23) 3 (zc 325 true (.pop) 1 (zc 326 true (.goto 1627) 3 (zc 329 true (.aload_n 1) 1 (zc 330 true (.aload_n 0) 1 (zc 331 true (.iload 4) 2 (zc 333 true (.iconst 1) 1 (zc 334 true (.iadd) 1 (zc 335 true (.iaload) 1 (zc 336 true (.invokevirtual 24) 3 (zc 339 true (.pop) 1 (zc 340 true (.aload_n 2) 1 (zc 341 true (.aload_n 0) 1 (zc 342 true (.iload 4) 2 (zc 344 true (.iconst 1) 1 (zc 345 true (.iadd) 1 (zc 346 true (.iaload) 1 (zc 347 true (.invokevirtual 27) 3 (zc 350 true (.pop) 1 (zc 351 true (.goto 1602) 3 (zc 354 true (.aload_n 1) 1 (zc 355 true (.invokevirtual 28) 3 (zc 358 true (.pop) 1 (zc 359 true (.aload_n 2) 1 (zc 360 true (.invokevirtual 32) 3 (zc 363 true (.pop) 1 (zc 364 true (.goto 1589) 3 (zc 367 true (.aload_n 1) 1 (zc 368 true (.invokevirtual 33) 3 (zc 371 true (.pop) 1 (zc 372 true (.aload_n 2) 1 (zc 373 true (.invokevirtual 36) 3 (zc 376 true (.pop) 1 (zc 377 true (.goto 1576) 3 (zc 380 true (.aload_n 1) 1 (zc 381 true (.aload_n 0) 1 (zc 382 true (.iload 4) 2 (zc 384 true (.iconst 1) 1 (zc 385 true (.iadd) 1 (zc 386 true (.iaload) 1 (zc 387 true (.aload_n 0) 1 (zc 388 true (.iload 4) 2 (zc 390 true (.iconst 2) 1 (zc 391 true (.iadd) 1 (zc 392 true (.iaload) 1 (zc 393 true (.invokevirtual 37) 3 (zc 396 true (.pop) 1 (zc 397 true (.aload_n 2) 1 (zc 398 true (.aload_n 0) 1 ([]))))))))))))))))))))))))))))))))))))))))))))))))))))))))))))))))
theorem zrL_law_1_ok : zck 304 ((zby cL_law).drop 304) zrL_law_1 = true := by decide +kernel
noncomputable def zrL_law_2 : List ZR := zc 399 true (.iload 4) 2 (zc 401 true (.iconst 1) 1 (zc 402 true (.iadd) 1 (zc 403 true (.iaload) 1 (zc 404 true (.aload_n 0) 1 (zc 405 true (.iload 4) 2 (zc 407 true (.iconst 2) 1 (zc 408 true (.iadd) 1 (zc 409 true (.iaload) 1 (zc 410 true (.invokevirtual 41) 3 (zc 413 true (.pop) 1 (zc 414 true (.goto 1539) 3 (zc 417 true (.aload_n 1) 1 (zc 418 true (.aload_n 0) 1 (zc 419 true (.iload 4) 2 (zc 421 true (.iconst 1) 1 (zc 422 true (.iadd) 1 (zc 423 true (.iaload) 1 (zc 424 true (.aload_n 0) 1 (zc 425 true (.iload 4) 2 (zc 427 true (.iconst 2) 1 (zc 428 true (.iadd) 1 (zc 429 true (.iaload) 1 (zc 430 true (.invokevirtual 42) 3 (zc 433 true (.pop) 1 (zc 434 true (.aload_n 2) 1 (zc 435 true (.aload_n 0) 1 (zc 436 true (.iload 4) 2 (zc 438 true (.iconst 1) 1 (zc 439 true (.iadd) 1 (zc 440 true (.iaload) 1 (zc 441 true (.aload_n 0) 1 (zc 442 true (.iload 4) 2 (zc 444 true (.iconst 2) 1 (zc 445 true (.iadd) 1 (zc 446 true (.iaload) 1 (zc 447 true (.invokevirtual 45) 3 (zc 450 true (.pop) 1 (zc 451 true (.goto 1502) 3 (zc 454 true (.aload_n 1) 1 (zc 455 true (.aload_n 0) 1 (zc 456 true (.iload 4) 2 (zc 458 true (.iconst 1) 1 (zc 459 true (.iadd) 1 (zc 460 true (.iaload) 1 (zc 461 true (.invokevirtual 46) 3 (zc 464 true (.pop) 1 (zc 465 true (.aload_n 2) 1 (zc 466 true (.aload_n 0) 1 (zc 467 true (.iload 4) 2 (zc 469 true (.iconst 1) 1 (zc 470 true (.iadd) 1 (zc 471 true (.iaload) 1 (zc 472 true (.invokevirtual 49) 3 (zc 475 true (.pop) 1 (zc 476 true (.goto 1477) 3 (zc 479 true (.aload_n 1) 1 (zc 480 true (.aload_n 0) 1 (zc 481 true (.iload 4) 2 (zc 483 true (.iconst 1) 1 (zc 484 true (.iadd) 1 (zc 485 true (.iaload) 1 (zc 486 true (.aload_n 0) 1 (zc 487 true (.iload 4) 2 ([]))))))))))))))))))))))))))))))))))))))))))))))))))))))))))))))))
theorem zrL_law_2_ok : zck 399 ((zby cL_law).drop 399) zrL_law_2 = true := by decide +kernel
noncomputable def zrL_law_3 : List ZR := zc 489 true (.iconst 2) 1 (zc 490 true (.iadd) 1 (zc 491 true (.iaload) 1 (zc 492 true (.aload_n 0) 1 (zc 493 true (.iload 4) 2 (zc 495 true (.iconst 3) 1 (zc 496 true (.iadd) 1 (zc 497 true (.iaload) 1 (zc 498 true (.aload_n 0) 1 (zc 499 true (.iload 4) 2 (zc 501 true (.iconst 4) 1 (zc 502 true (.iadd) 1 (zc 503 true (.iaload) 1 (zc 504 true (.invokevirtual 50) 3 (zc 507 true (.pop) 1 (zc 508 true (.aload_n 2) 1 (zc 509 true (.aload_n 0) 1 (zc 510 true (.iload 4) 2 (zc 512 true (.iconst 1) 1 (zc 513 true (.iadd) 1 (zc 514 true (.iaload) 1 (zc 515 true (.aload_n 0) 1 (zc 516 true (.iload 4) 2 (zc 518 true (.iconst 2) 1 (zc 519 true (.iadd) 1 (zc 520 true (.iaload) 1 (zc 521 true (.aload_n 0) 1 (zc 522 true (.iload 4) 2 (zc 524 true (.iconst 3) 1 (zc 525 true (.iadd) 1 (zc 526 true (.iaload) 1 (zc 527 true (.aload_n 0) 1 (zc 528 true (.iload 4) 2 (zc 530 true (.iconst 4) 1 (zc 531 true (.iadd) 1 (zc 532 true (.iaload) 1 (zc 533 true (.invokevirtual 54) 3 (zc 536 true (.pop) 1 (zc 537 true (.goto 1416) 3 (zc 540 true (.aload_n 1) 1 (zc 541 true (.aload_n 0) 1 (zc 542 true (.iload 4) 2 (zc 544 true (.iconst 1) 1 (zc 545 true (.iadd) 1 (zc 546 true (.iaload) 1 (zc 547 true (.aload_n 0) 1 (zc 548 true (.iload 4) 2 (zc 550 true (.iconst 2) 1 (zc 551 true (.iadd) 1 (zc 552 true (.iaload) 1 (zc 553 true (.aload_n 0) 1 (zc 554 true (.iload 4) 2 (zc 556 true (.iconst 3) 1 (zc 557 true (.iadd) 1 (zc 558 true (.iaload) 1 (zc 559 true (.aload_n 0) 1 (zc 560 true (.iload 4) 2 (zc 562 true (.iconst 4) 1 (zc 563 true (.iadd) 1 (zc 564 true (.iaload) 1 (zc 565 true (.aload_n 0) 1 (zc 566 true (.iload 4) 2 (zc 568 true (.iconst 5) 1 (zc 569 true (.iadd) 1 ([]))))))))))))))))))))))))))))))))))))))))))))))))))))))))))))))))
theorem zrL_law_3_ok : zck 489 ((zby cL_law).drop 489) zrL_law_3 = true := by decide +kernel
noncomputable def zrL_law_4 : List ZR := zc 570 true (.iaload) 1 (zc 571 true (.ifCond .eq 7) 3 (zc 574 true (.iconst 1) 1 (zc 575 true (.goto 4) 3 (zc 578 true (.iconst 0) 1 (zc 579 true (.invokevirtual 55) 3 (zc 582 true (.pop2) 1 (zc 583 true (.aload_n 2) 1 (zc 584 true (.aload_n 0) 1 (zc 585 true (.iload 4) 2 (zc 587 true (.iconst 1) 1 (zc 588 true (.iadd) 1 (zc 589 true (.iaload) 1 (zc 590 true (.aload_n 0) 1 (zc 591 true (.iload 4) 2 (zc 593 true (.iconst 2) 1 (zc 594 true (.iadd) 1 (zc 595 true (.iaload) 1 (zc 596 true (.aload_n 0) 1 (zc 597 true (.iload 4) 2 (zc 599 true (.iconst 3) 1 (zc 600 true (.iadd) 1 (zc 601 true (.iaload) 1 (zc 602 true (.aload_n 0) 1 (zc 603 true (.iload 4) 2 (zc 605 true (.iconst 4) 1 (zc 606 true (.iadd) 1 (zc 607 true (.iaload) 1 (zc 608 true (.aload_n 0) 1 (zc 609 true (.iload 4) 2 (zc 611 true (.iconst 5) 1 (zc 612 true (.iadd) 1 (zc 613 true (.iaload) 1 (zc 614 true (.ifCond .eq 7) 3 (zc 617 true (.iconst 1) 1 (zc 618 true (.goto 4) 3 (zc 621 true (.iconst 0) 1 (zc 622 true (.invokevirtual 59) 3 (zc 625 true (.pop2) 1 (zc 626 true (.goto 1327) 3 (zc 629 true (.aload_n 1) 1 (zc 630 true (.aload_n 0) 1 (zc 631 true (.iload 4) 2 (zc 633 true (.iconst 1) 1 (zc 634 true (.iadd) 1 (zc 635 true (.iaload) 1 (zc 636 true (.aload_n 0) 1 (zc 637 true (.iload 4) 2 (zc 639 true (.iconst 2) 1 (zc 640 true (.iadd) 1 (zc 641 true (.iaload) 1 (zc 642 true (.aload_n 0) 1 (zc 643 true (.iload 4) 2 (zc 645 true (.iconst 3) 1 (zc 646 true (.iadd) 1 (zc 647 true (.iaload) 1 (zc 648 true (.aload_n 0) 1 (zc 649 true (.iload 4) 2 (zc 651 true (.iconst 4) 1 (zc 652 true (.iadd) 1 (zc 653 true (.iaload) 1 (zc 654 true (.ifCond .eq 7) 3 (zc 657 true (.iconst 1) 1 (zc 658 true (.goto 4) 3 ([]))))))))))))))))))))))))))))))))))))))))))))))))))))))))))))))))
theorem zrL_law_4_ok : zck 570 ((zby cL_law).drop 570) zrL_law_4 = true := by decide +kernel
noncomputable def zrL_law_5 : List ZR := zc 661 true (.iconst 0) 1 (zc 662 true (.invokevirtual 60) 3 (zc 665 true (.pop2) 1 (zc 666 true (.aload_n 2) 1 (zc 667 true (.aload_n 0) 1 (zc 668 true (.iload 4) 2 (zc 670 true (.iconst 1) 1 (zc 671 true (.iadd) 1 (zc 672 true (.iaload) 1 (zc 673 true (.aload_n 0) 1 (zc 674 true (.iload 4) 2 (zc 676 true (.iconst 2) 1 (zc 677 true (.iadd) 1 (zc 678 true (.iaload) 1 (zc 679 true (.aload_n 0) 1 (zc 680 true (.iload 4) 2 (zc 682 true (.iconst 3) 1 (zc 683 true (.iadd) 1 (zc 684 true (.iaload) 1 (zc 685 true (.aload_n 0) 1 (zc 686 true (.iload 4) 2 (zc 688 true (.iconst 4) 1 (zc 689 true (.iadd) 1 (zc 690 true (.iaload) 1 (zc 691 true (.ifCond .eq 7) 3 (zc 694 true (.iconst 1) 1 (zc 695 true (.goto 4) 3 (zc 698 true (.iconst 0) 1 (zc 699 true (.invokevirtual 64) 3 (zc 702 true (.pop2) 1 (zc 703 true (.goto 1250) 3 (zc 706 true (.aload_n 1) 1 (zc 707 true (.aload_n 0) 1 (zc 708 true (.iload 4) 2 (zc 710 true (.iconst 1) 1 (zc 711 true (.iadd) 1 (zc 712 true (.iaload) 1 (zc 713 true (.aload_n 0) 1 (zc 714 true (.iload 4) 2 (zc 716 true (.iconst 2) 1 (zc 717 true (.iadd) 1 (zc 718 true (.iaload) 1 (zc 719 true (.aload_n 0) 1 (zc 720 true (.iload 4) 2 (zc 722 true (.iconst 3) 1 (zc 723 true (.iadd) 1 (zc 724 true (.iaload) 1 (zc 725 true (.aload_n 0) 1 (zc 726 true (.iload 4) 2 (zc 728 true (.iconst 4) 1 (zc 729 true (.iadd) 1 (zc 730 true (.iaload) 1 (zc 731 true (.ifCond .eq 7) 3 (zc 734 true (.iconst 1) 1 (zc 735 true (.goto 4) 3 (zc 738 true (.iconst 0) 1 (zc 739 true (.invokevirtual 65) 3 (zc 742 true (.pop2) 1 (zc 743 true (.aload_n 2) 1 (zc 744 true (.aload_n 0) 1 (zc 745 true (.iload 4) 2 (zc 747 true (.iconst 1) 1 (zc 748 true (.iadd) 1 (zc 749 true (.iaload) 1 ([]))))))))))))))))))))))))))))))))))))))))))))))))))))))))))))))))
theorem zrL_law_5_ok : zck 661 ((zby cL_law).drop 661) zrL_law_5 = true := by decide +kernel
noncomputable def zrL_law_6 : List ZR := zc 750 true (.aload_n 0) 1 (zc 751 true (.iload 4) 2 (zc 753 true (.iconst 2) 1 (zc 754 true (.iadd) 1 (zc 755 true (.iaload) 1 (zc 756 true (.aload_n 0) 1 (zc 757 true (.iload 4) 2 (zc 759 true (.iconst 3) 1 (zc 760 true (.iadd) 1 (zc 761 true (.iaload) 1 (zc 762 true (.aload_n 0) 1 (zc 763 true (.iload 4) 2 (zc 765 true (.iconst 4) 1 (zc 766 true (.iadd) 1 (zc 767 true (.iaload) 1 (zc 768 true (.ifCond .eq 7) 3 (zc 771 true (.iconst 1) 1 (zc 772 true (.goto 4) 3 (zc 775 true (.iconst 0) 1 (zc 776 true (.invokevirtual 68) 3 (zc 779 true (.pop2) 1 (zc 780 true (.goto 1173) 3 (zc 783 true (.aload_n 1) 1 (zc 784 true (.aload_n 0) 1 (zc 785 true (.iload 4) 2 (zc 787 true (.iconst 1) 1 (zc 788 true (.iadd) 1 (zc 789 true (.iaload) 1 (zc 790 true (.aload_n 0) 1 (zc 791 true (.iload 4) 2 (zc 793 true (.iconst 2) 1 (zc 794 true (.iadd) 1 (zc 795 true (.iaload) 1 (zc 796 true (.aload_n 0) 1 (zc 797 true (.iload 4) 2 (zc 799 true (.iconst 3) 1 (zc 800 true (.iadd) 1 (zc 801 true (.iaload) 1 (zc 802 true (.invokevirtual 69) 3 (zc 805 true (.pop) 1 (zc 806 true (.aload_n 2) 1 (zc 807 true (.aload_n 0) 1 (zc 808 true (.iload 4) 2 (zc 810 true (.iconst 1) 1 (zc 811 true (.iadd) 1 (zc 812 true (.iaload) 1 (zc 813 true (.aload_n 0) 1 (zc 814 true (.iload 4) 2 (zc 816 true (.iconst 2) 1 (zc 817 true (.iadd) 1 (zc 818 true (.iaload) 1 (zc 819 true (.aload_n 0) 1 (zc 820 true (.iload 4) 2 (zc 822 true (.iconst 3) 1 (zc 823 true (.iadd) 1 (zc 824 true (.iaload) 1 (zc 825 true (.invokevirtual 73) 3 (zc 828 true (.pop) 1 (zc 829 true (.goto 1124) 3 (zc 832 true (.aload_n 1) 1 (zc 833 true (.aload_n 0) 1 (zc 834 true (.iload 4) 2 (zc 836 true (.iconst 1) 1 (zc 837 true (.iadd) 1 ([]))))))))))))))))))))))))))))))))))))))))))))))))))))))))))))))))
theorem zrL_law_6_ok : zck 750 ((zby cL_law).drop 750) zrL_law_6 = true := by decide +kernel
noncomputable def zrL_law_7 : List ZR := zc 838 true (.iaload) 1 (zc 839 true (.invokevirtual 74) 3 (zc 842 true (.pop) 1 (zc 843 true (.aload_n 2) 1 (zc 844 true (.aload_n 0) 1 (zc 845 true (.iload 4) 2 (zc 847 true (.iconst 1) 1 (zc 848 true (.iadd) 1 (zc 849 true (.iaload) 1 (zc 850 true (.invokevirtual 77) 3 (zc 853 true (.pop) 1 (zc 854 true (.goto 1099) 3 (zc 857 true (.aload_n 1) 1 (zc 858 true (.aload_n 0) 1 (zc 859 true (.iload 4) 2 (zc 861 true (.iconst 1) 1 (zc 862 true (.iadd) 1 (zc 863 true (.iaload) 1 (zc 864 true (.aload_n 0) 1 (zc 865 true (.iload 4) 2 (zc 867 true (.iconst 2) 1 (zc 868 true (.iadd) 1 (zc 869 true (.iaload) 1 (zc 870 true (.ifCond .eq 7) 3 (zc 873 true (.iconst 1) 1 (zc 874 true (.goto 4) 3 (zc 877 true (.iconst 0) 1 (zc 878 true (.invokevirtual 78) 3 (zc 881 true (.pop2) 1 (zc 882 true (.aload_n 2) 1 (zc 883 true (.aload_n 0) 1 (zc 884 true (.iload 4) 2 (zc 886 true (.iconst 1) 1 (zc 887 true (.iadd) 1 (zc 888 true (.iaload) 1 (zc 889 true (.aload_n 0) 1 (zc 890 true (.iload 4) 2 (zc 892 true (.iconst 2) 1 (zc 893 true (.iadd) 1 (zc 894 true (.iaload) 1 (zc 895 true (.ifCond .eq 7) 3 (zc 898 true (.iconst 1) 1 (zc 899 true (.goto 4) 3 (zc 902 true (.iconst 0) 1 (zc 903 true (.invokevirtual 82) 3 (zc 906 true (.pop2) 1 (zc 907 true (.goto 1046) 3 (zc 910 true (.aload_n 1) 1 (zc 911 true (.invokevirtual 83) 3 (zc 914 true (.pop) 1 (zc 915 true (.aload_n 2) 1 (zc 916 true (.invokevirtual 86) 3 (zc 919 true (.pop) 1 (zc 920 true (.goto 1033) 3 (zc 923 true (.aload_n 1) 1 (zc 924 true (.invokevirtual 87) 3 (zc 927 true (.pop) 1 (zc 928 true (.aload_n 2) 1 (zc 929 true (.invokevirtual 90) 3 (zc 932 true (.pop) 1 (zc 933 true (.goto 1020) 3 (zc 936 true (.aload_n 1) 1 (zc 937 true (.aload_n 0) 1 (zc 938 true (.iload 4) 2 ([]))))))))))))))))))))))))))))))))))))))))))))))))))))))))))))))))
theorem zrL_law_7_ok : zck 838 ((zby cL_law).drop 838) zrL_law_7 = true := by decide +kernel
noncomputable def zrL_law_8 : List ZR := zc 940 true (.iconst 1) 1 (zc 941 true (.iadd) 1 (zc 942 true (.iaload) 1 (zc 943 true (.aload_n 0) 1 (zc 944 true (.iload 4) 2 (zc 946 true (.iconst 2) 1 (zc 947 true (.iadd) 1 (zc 948 true (.iaload) 1 (zc 949 true (.aload_n 0) 1 (zc 950 true (.iload 4) 2 (zc 952 true (.iconst 3) 1 (zc 953 true (.iadd) 1 (zc 954 true (.iaload) 1 (zc 955 true (.aload_n 0) 1 (zc 956 true (.iload 4) 2 (zc 958 true (.iconst 4) 1 (zc 959 true (.iadd) 1 (zc 960 true (.iaload) 1 (zc 961 true (.invokevirtual 91) 3 (zc 964 true (.pop) 1 (zc 965 true (.aload_n 2) 1 (zc 966 true (.aload_n 0) 1 (zc 967 true (.iload 4) 2 (zc 969 true (.iconst 1) 1 (zc 970 true (.iadd) 1 (zc 971 true (.iaload) 1 (zc 972 true (.aload_n 0) 1 (zc 973 true (.iload 4) 2 (zc 975 true (.iconst 2) 1 (zc 976 true (.iadd) 1 (zc 977 true (.iaload) 1 (zc 978 true (.aload_n 0) 1 (zc 979 true (.iload 4) 2 (zc 981 true (.iconst 3) 1 (zc 982 true (.iadd) 1 (zc 983 true (.iaload) 1 (zc 984 true (.aload_n 0) 1 (zc 985 true (.iload 4) 2 (zc 987 true (.iconst 4) 1 (zc 988 true (.iadd) 1 (zc 989 true (.iaload) 1 (zc 990 true (.invokevirtual 94) 3 (zc 993 true (.pop) 1 (zc 994 true (.goto 959) 3 (zc 997 true (.aload_n 1) 1 (zc 998 true (.aload_n 0) 1 (zc 999 true (.iload 4) 2 (zc 1001 true (.iconst 1) 1 (zc 1002 true (.iadd) 1 (zc 1003 true (.iaload) 1 (zc 1004 true (.invokevirtual 95) 3 (zc 1007 true (.pop) 1 (zc 1008 true (.aload_n 2) 1 (zc 1009 true (.aload_n 0) 1 (zc 1010 true (.iload 4) 2 (zc 1012 true (.iconst 1) 1 (zc 1013 true (.iadd) 1 (zc 1014 true (.iaload) 1 (zc 1015 true (.invokevirtual 98) 3 (zc 1018 true (.pop) 1 (zc 1019 true (.goto 934) 3 (zc 1022 true (.aload_n 1) 1 (zc 1023 true (.aload_n 0) 1 (zc 1024 true (.iload 4) 2 ([]))))))))))))))))))))))))))))))))))))))))))))))))))))))))))))))))
theorem zrL_law_8_ok : zck 940 ((zby cL_law).drop 940) zrL_law_8 = true := by decide +kernel
noncomputable def zrL_law_9 : List ZR := zc 1026 true (.iconst 1) 1 (zc 1027 true (.iadd) 1 (zc 1028 true (.iaload) 1 (zc 1029 true (.aload_n 0) 1 (zc 1030 true (.iload 4) 2 (zc 1032 true (.iconst 2) 1 (zc 1033 true (.iadd) 1 (zc 1034 true (.iaload) 1 (zc 1035 true (.aload_n 0) 1 (zc 1036 true (.iload 4) 2 (zc 1038 true (.iconst 3) 1 (zc 1039 true (.iadd) 1 (zc 1040 true (.iaload) 1 (zc 1041 true (.aload_n 0) 1 (zc 1042 true (.iload 4) 2 (zc 1044 true (.iconst 4) 1 (zc 1045 true (.iadd) 1 (zc 1046 true (.iaload) 1 (zc 1047 true (.invokevirtual 99) 3 (zc 1050 true (.pop) 1 (zc 1051 true (.aload_n 2) 1 (zc 1052 true (.aload_n 0) 1 (zc 1053 true (.iload 4) 2 (zc 1055 true (.iconst 1) 1 (zc 1056 true (.iadd) 1 (zc 1057 true (.iaload) 1 (zc 1058 true (.aload_n 0) 1 (zc 1059 true (.iload 4) 2 (zc 1061 true (.iconst 2) 1 (zc 1062 true (.iadd) 1 (zc 1063 true (.iaload) 1 (zc 1064 true (.aload_n 0) 1 (zc 1065 true (.iload 4) 2 (zc 1067 true (.iconst 3) 1 (zc 1068 true (.iadd) 1 (zc 1069 true (.iaload) 1 (zc 1070 true (.aload_n 0) 1 (zc 1071 true (.iload 4) 2 (zc 1073 true (.iconst 4) 1 (zc 1074 true (.iadd) 1 (zc 1075 true (.iaload) 1 (zc 1076 true (.invokevirtual 102) 3 (zc 1079 true (.pop) 1 (zc 1080 true (.goto 873) 3 (zc 1083 true (.aload_n 1) 1 (zc 1084 true (.invokevirtual 103) 3 (zc 1087 true (.pop) 1 (zc 1088 true (.aload_n 2) 1 (zc 1089 true (.invokevirtual 106) 3 (zc 1092 true (.pop) 1 (zc 1093 true (.goto 860) 3 (zc 1096 true (.aload_n 1) 1 (zc 1097 true (.aload_n 0) 1 (zc 1098 true (.iload 4) 2 (zc 1100 true (.iconst 1) 1 (zc 1101 true (.iadd) 1 (zc 1102 true (.iaload) 1 (zc 1103 true (.invokevirtual 107) 3 (zc 1106 true (.pop) 1 (zc 1107 true (.aload_n 2) 1 (zc 1108 true (.aload_n 0) 1 (zc 1109 true (.iload 4) 2 (zc 1111 true (.iconst 1) 1 (zc 1112 true (.iadd) 1 ([]))))))))))))))))))))))))))))))))))))))))))))))))))))))))))))))))
theorem zrL_law_9_ok : zck 1026 ((zby cL_law).drop 1026) zrL_law_9 = true := by decide +kernel
noncomputable def zrL_law_10 : List ZR := zc 1113 true (.iaload) 1 (zc 1114 true (.invokevirtual 110) 3 (zc 1117 true (.pop) 1 (zc 1118 true (.goto 835) 3 (zc 1121 true (.aload_n 1) 1 (zc 1122 true (.invokevirtual 111) 3 (zc 1125 true (.pop) 1 (zc 1126 true (.aload_n 2) 1 (zc 1127 true (.invokevirtual 114) 3 (zc 1130 true (.pop) 1 (zc 1131 true (.goto 822) 3 (zc 1134 true (.aload_n 1) 1 (zc 1135 true (.invokevirtual 115) 3 (zc 1138 true (.pop) 1 (zc 1139 true (.aload_n 2) 1 (zc 1140 true (.invokevirtual 118) 3 (zc 1143 true (.pop) 1 (zc 1144 true (.goto 809) 3 (zc 1147 true (.aload_n 1) 1 (zc 1148 true (.aload_n 0) 1 (zc 1149 true (.iload 4) 2 (zc 1151 true (.iconst 1) 1 (zc 1152 true (.iadd) 1 (zc 1153 true (.iaload) 1 (zc 1154 true (.invokevirtual 119) 3 (zc 1157 true (.aload_n 2) 1 (zc 1158 true (.aload_n 0) 1 (zc 1159 true (.iload 4) 2 (zc 1161 true (.iconst 1) 1 (zc 1162 true (.iadd) 1 (zc 1163 true (.iaload) 1 (zc 1164 true (.invokevirtual 122) 3 (zc 1167 true (.if_icmp .eq 786) 3 (zc 1170 true (.iconst 0) 1 (zc 1171 true (.ireturn) 1 (zc 1172 true (.aload_n 1) 1 (zc 1173 true (.invokevirtual 123) 3 (zc 1176 true (.pop) 1 (zc 1177 true (.aload_n 2) 1 (zc 1178 true (.invokevirtual 126) 3 (zc 1181 true (.pop) 1 (zc 1182 true (.goto 771) 3 (zc 1185 true (.aload_n 1) 1 (zc 1186 true (.invokevirtual 127) 3 (zc 1189 true (.pop) 1 (zc 1190 true (.aload_n 2) 1 (zc 1191 true (.invokevirtual 130) 3 (zc 1194 true (.pop) 1 (zc 1195 true (.goto 758) 3 (zc 1198 true (.aload_n 1) 1 (zc 1199 true (.invokevirtual 131) 3 (zc 1202 true (.pop) 1 (zc 1203 true (.aload_n 2) 1 (zc 1204 true (.invokevirtual 134) 3 (zc 1207 true (.pop) 1 (zc 1208 true (.goto 745) 3 (zc 1211 true (.aload_n 1) 1 (zc 1212 true (.aload_n 0) 1 (zc 1213 true (.iload 4) 2 (zc 1215 true (.iconst 1) 1 (zc 1216 true (.iadd) 1 (zc 1217 true (.iaload) 1 (zc 1218 true (.invokevirtual 135) 3 (zc 1221 true (.pop) 1 ([]))))))))))))))))))))))))))))))))))))))))))))))))))))))))))))))))
theorem zrL_law_10_ok : zck 1113 ((zby cL_law).drop 1113) zrL_law_10 = true := by decide +kernel
noncomputable def zrL_law_11 : List ZR := zc 1222 true (.aload_n 2) 1 (zc 1223 true (.aload_n 0) 1 (zc 1224 true (.iload 4) 2 (zc 1226 true (.iconst 1) 1 (zc 1227 true (.iadd) 1 (zc 1228 true (.iaload) 1 (zc 1229 true (.invokevirtual 138) 3 (zc 1232 true (.pop) 1 (zc 1233 true (.goto 720) 3 (zc 1236 true (.aload_n 1) 1 (zc 1237 true (.aload_n 0) 1 (zc 1238 true (.iload 4) 2 (zc 1240 true (.iconst 1) 1 (zc 1241 true (.iadd) 1 (zc 1242 true (.iaload) 1 (zc 1243 true (.aload_n 0) 1 (zc 1244 true (.iload 4) 2 (zc 1246 true (.iconst 2) 1 (zc 1247 true (.iadd) 1 (zc 1248 true (.iaload) 1 (zc 1249 true (.aload_n 0) 1 (zc 1250 true (.iload 4) 2 (zc 1252 true (.iconst 3) 1 (zc 1253 true (.iadd) 1 (zc 1254 true (.iaload) 1 (zc 1255 true (.invokevirtual 139) 3 (zc 1258 true (.pop) 1 (zc 1259 true (.aload_n 2) 1 (zc 1260 true (.aload_n 0) 1 (zc 1261 true (.iload 4) 2 (zc 1263 true (.iconst 1) 1 (zc 1264 true (.iadd) 1 (zc 1265 true (.iaload) 1 (zc 1266 true (.aload_n 0) 1 (zc 1267 true (.iload 4) 2 (zc 1269 true (.iconst 2) 1 (zc 1270 true (.iadd) 1 (zc 1271 true (.iaload) 1 (zc 1272 true (.aload_n 0) 1 (zc 1273 true (.iload 4) 2 (zc 1275 true (.iconst 3) 1 (zc 1276 true (.iadd) 1 (zc 1277 true (.iaload) 1 (zc 1278 true (.invokevirtual 142) 3 (zc 1281 true (.pop) 1 (zc 1282 true (.goto 671) 3 (zc 1285 true (.aload_n 1) 1 (zc 1286 true (.aload_n 0) 1 (zc 1287 true (.iload 4) 2 (zc 1289 true (.iconst 1) 1 (zc 1290 true (.iadd) 1 (zc 1291 true (.iaload) 1 (zc 1292 true (.invokevirtual 143) 3 (zc 1295 true (.pop) 1 (zc 1296 true (.aload_n 2) 1 (zc 1297 true (.aload_n 0) 1 (zc 1298 true (.iload 4) 2 (zc 1300 true (.iconst 1) 1 (zc 1301 true (.iadd) 1 (zc 1302 true (.iaload) 1 (zc 1303 true (.invokevirtual 146) 3 (zc 1306 true (.pop) 1 (zc 1307 true (.goto 646) 3 (zc 1310 true (.aload_n 1) 1 ([]))))))))))))))))))))))))))))))))))))))))))))))))))))))))))))))))
theorem zrL_law_11_ok : zck 1222 ((zby cL_law).drop 1222) zrL_law_11 = true := by decide +kernel
noncomputable def zrL_law_12 : List ZR := zc 1311 true (.aload_n 0) 1 (zc 1312 true (.iload 4) 2 (zc 1314 true (.iconst 1) 1 (zc 1315 true (.iadd) 1 (zc 1316 true (.iaload) 1 (zc 1317 true (.invokevirtual 147) 3 (zc 1320 true (.pop) 1 (zc 1321 true (.aload_n 2) 1 (zc 1322 true (.aload_n 0) 1 (zc 1323 true (.iload 4) 2 (zc 1325 true (.iconst 1) 1 (zc 1326 true (.iadd) 1 (zc 1327 true (.iaload) 1 (zc 1328 true (.invokevirtual 150) 3 (zc 1331 true (.pop) 1 (zc 1332 true (.goto 621) 3 (zc 1335 true (.aload_n 1) 1 (zc 1336 true (.invokevirtual 151) 3 (zc 1339 true (.pop) 1 (zc 1340 true (.aload_n 2) 1 (zc 1341 true (.invokevirtual 154) 3 (zc 1344 true (.pop) 1 (zc 1345 true (.goto 608) 3 (zc 1348 true (.aload_n 1) 1 (zc 1349 true (.aload_n 0) 1 (zc 1350 true (.iload 4) 2 (zc 1352 true (.iconst 1) 1 (zc 1353 true (.iadd) 1 (zc 1354 true (.iaload) 1 (zc 1355 true (.aload_n 0) 1 (zc 1356 true (.iload 4) 2 (zc 1358 true (.iconst 2) 1 (zc 1359 true (.iadd) 1 (zc 1360 true (.iaload) 1 (zc 1361 true (.aload_n 0) 1 (zc 1362 true (.iload 4) 2 (zc 1364 true (.iconst 3) 1 (zc 1365 true (.iadd) 1 (zc 1366 true (.iaload) 1 (zc 1367 true (.aload_n 0) 1 (zc 1368 true (.iload 4) 2 (zc 1370 true (.iconst 4) 1 (zc 1371 true (.iadd) 1 (zc 1372 true (.iaload) 1 (zc 1373 true (.aload_n 0) 1 (zc 1374 true (.iload 4) 2 (zc 1376 true (.iconst 5) 1 (zc 1377 true (.iadd) 1 (zc 1378 true (.iaload) 1 (zc 1379 true (.ifCond .eq 7) 3 (zc 1382 true (.iconst 1) 1 (zc 1383 true (.goto 4) 3 (zc 1386 true (.iconst 0) 1 (zc 1387 true (.invokevirtual 155) 3 (zc 1390 true (.pop) 1 (zc 1391 true (.aload_n 2) 1 (zc 1392 true (.aload_n 0) 1 (zc 1393 true (.iload 4) 2 (zc 1395 true (.iconst 1) 1 (zc 1396 true (.iadd) 1 (zc 1397 true (.iaload) 1 (zc 1398 true (.aload_n 0) 1 (zc 1399 true (.iload 4) 2 (zc 1401 true (.iconst 2) 1 ([]))))))))))))))))))))))))))))))))))))))))))))))))))))))))))))))))
theorem zrL_law_12_ok : zck 1311 ((zby cL_law).drop 1311) zrL_law_12 = true := by decide +kernel
noncomputable def zrL_law_13 : List ZR := zc 1402 true (.iadd) 1 (zc 1403 true (.iaload) 1 (zc 1404 true (.aload_n 0) 1 (zc 1405 true (.iload 4) 2 (zc 1407 true (.iconst 3) 1 (zc 1408 true (.iadd) 1 (zc 1409 true (.iaload) 1 (zc 1410 true (.aload_n 0) 1 (zc 1411 true (.iload 4) 2 (zc 1413 true (.iconst 4) 1 (zc 1414 true (.iadd) 1 (zc 1415 true (.iaload) 1 (zc 1416 true (.aload_n 0) 1 (zc 1417 true (.iload 4) 2 (zc 1419 true (.iconst 5) 1 (zc 1420 true (.iadd) 1 (zc 1421 true (.iaload) 1 (zc 1422 true (.ifCond .eq 7) 3 (zc 1425 true (.iconst 1) 1 (zc 1426 true (.goto 4) 3 (zc 1429 true (.iconst 0) 1 (zc 1430 true (.invokevirtual 159) 3 (zc 1433 true (.pop) 1 (zc 1434 true (.goto 519) 3 (zc 1437 true (.aload_n 1) 1 (zc 1438 true (.aload_n 0) 1 (zc 1439 true (.iload 4) 2 (zc 1441 true (.iconst 1) 1 (zc 1442 true (.iadd) 1 (zc 1443 true (.iaload) 1 (zc 1444 true (.aload_n 0) 1 (zc 1445 true (.iload 4) 2 (zc 1447 true (.iconst 2) 1 (zc 1448 true (.iadd) 1 (zc 1449 true (.iaload) 1 (zc 1450 true (.aload_n 0) 1 (zc 1451 true (.iload 4) 2 (zc 1453 true (.iconst 3) 1 (zc 1454 true (.iadd) 1 (zc 1455 true (.iaload) 1 (zc 1456 true (.aload_n 0) 1 (zc 1457 true (.iload 4) 2 (zc 1459 true (.iconst 4) 1 (zc 1460 true (.iadd) 1 (zc 1461 true (.iaload) 1 (zc 1462 true (.ifCond .eq 7) 3 (zc 1465 true (.iconst 1) 1 (zc 1466 true (.goto 4) 3 (zc 1469 true (.iconst 0) 1 (zc 1470 true (.invokevirtual 160) 3 (zc 1473 true (.pop) 1 (zc 1474 true (.aload_n 2) 1 (zc 1475 true (.aload_n 0) 1 (zc 1476 true (.iload 4) 2 (zc 1478 true (.iconst 1) 1 (zc 1479 true (.iadd) 1 (zc 1480 true (.iaload) 1 (zc 1481 true (.aload_n 0) 1 (zc 1482 true (.iload 4) 2 (zc 1484 true (.iconst 2) 1 (zc 1485 true (.iadd) 1 (zc 1486 true (.iaload) 1 (zc 1487 true (.aload_n 0) 1 (zc 1488 true (.iload 4) 2 ([]))))))))))))))))))))))))))))))))))))))))))))))))))))))))))))))))
theorem zrL_law_13_ok : zck 1402 ((zby cL_law).drop 1402) zrL_law_13 = true := by decide +kernel
noncomputable def zrL_law_14 : List ZR := zc 1490 true (.iconst 3) 1 (zc 1491 true (.iadd) 1 (zc 1492 true (.iaload) 1 (zc 1493 true (.aload_n 0) 1 (zc 1494 true (.iload 4) 2 (zc 1496 true (.iconst 4) 1 (zc 1497 true (.iadd) 1 (zc 1498 true (.iaload) 1 (zc 1499 true (.ifCond .eq 7) 3 (zc 1502 true (.iconst 1) 1 (zc 1503 true (.goto 4) 3 (zc 1506 true (.iconst 0) 1 (zc 1507 true (.invokevirtual 164) 3 (zc 1510 true (.pop) 1 (zc 1511 true (.goto 442) 3 (zc 1514 true (.aload_n 1) 1 (zc 1515 true (.aload_n 0) 1 (zc 1516 true (.iload 4) 2 (zc 1518 true (.iconst 1) 1 (zc 1519 true (.iadd) 1 (zc 1520 true (.iaload) 1 (zc 1521 true (.invokevirtual 165) 3 (zc 1524 true (.pop) 1 (zc 1525 true (.aload_n 2) 1 (zc 1526 true (.aload_n 0) 1 (zc 1527 true (.iload 4) 2 (zc 1529 true (.iconst 1) 1 (zc 1530 true (.iadd) 1 (zc 1531 true (.iaload) 1 (zc 1532 true (.invokevirtual 168) 3 (zc 1535 true (.pop) 1 (zc 1536 true (.goto 417) 3 (zc 1539 true (.aload_n 1) 1 (zc 1540 true (.aload_n 0) 1 (zc 1541 true (.iload 4) 2 (zc 1543 true (.iconst 1) 1 (zc 1544 true (.iadd) 1 (zc 1545 true (.iaload) 1 (zc 1546 true (.invokevirtual 169) 3 (zc 1549 true (.pop) 1 (zc 1550 true (.aload_n 2) 1 (zc 1551 true (.aload_n 0) 1 (zc 1552 true (.iload 4) 2 (zc 1554 true (.iconst 1) 1 (zc 1555 true (.iadd) 1 (zc 1556 true (.iaload) 1 (zc 1557 true (.invokevirtual 172) 3 (zc 1560 true (.pop) 1 (zc 1561 true (.goto 392) 3 (zc 1564 true (.aload_n 1) 1 (zc 1565 true (.aload_n 0) 1 (zc 1566 true (.iload 4) 2 (zc 1568 true (.iconst 1) 1 (zc 1569 true (.iadd) 1 (zc 1570 true (.iaload) 1 (zc 1571 true (.aload_n 0) 1 (zc 1572 true (.iload 4) 2 (zc 1574 true (.iconst 2) 1 (zc 1575 true (.iadd) 1 (zc 1576 true (.iaload) 1 (zc 1577 true (.invokevirtual 173) 3 (zc 1580 true (.pop) 1 (zc 1581 true (.aload_n 2) 1 (zc 1582 true (.aload_n 0) 1 ([]))))))))))))))))))))))))))))))))))))))))))))))))))))))))))))))))
theorem zrL_law_14_ok : zck 1490 ((zby cL_law).drop 1490) zrL_law_14 = true := by decide +kernel
noncomputable def zrL_law_15 : List ZR := zc 1583 true (.iload 4) 2 (zc 1585 true (.iconst 1) 1 (zc 1586 true (.iadd) 1 (zc 1587 true (.iaload) 1 (zc 1588 true (.aload_n 0) 1 (zc 1589 true (.iload 4) 2 (zc 1591 true (.iconst 2) 1 (zc 1592 true (.iadd) 1 (zc 1593 true (.iaload) 1 (zc 1594 true (.invokevirtual 176) 3 (zc 1597 true (.pop) 1 (zc 1598 true (.goto 355) 3 (zc 1601 true (.aload_n 1) 1 (zc 1602 true (.aload_n 0) 1 (zc 1603 true (.iload 4) 2 (zc 1605 true (.iconst 1) 1 (zc 1606 true (.iadd) 1 (zc 1607 true (.iaload) 1 (zc 1608 true (.aload_n 0) 1 (zc 1609 true (.iload 4) 2 (zc 1611 true (.iconst 2) 1 (zc 1612 true (.iadd) 1 (zc 1613 true (.iaload) 1 (zc 1614 true (.aload_n 0) 1 (zc 1615 true (.iload 4) 2 (zc 1617 true (.iconst 3) 1 (zc 1618 true (.iadd) 1 (zc 1619 true (.iaload) 1 (zc 1620 true (.invokevirtual 177) 3 (zc 1623 true (.pop) 1 (zc 1624 true (.aload_n 2) 1 (zc 1625 true (.aload_n 0) 1 (zc 1626 true (.iload 4) 2 (zc 1628 true (.iconst 1) 1 (zc 1629 true (.iadd) 1 (zc 1630 true (.iaload) 1 (zc 1631 true (.aload_n 0) 1 (zc 1632 true (.iload 4) 2 (zc 1634 true (.iconst 2) 1 (zc 1635 true (.iadd) 1 (zc 1636 true (.iaload) 1 (zc 1637 true (.aload_n 0) 1 (zc 1638 true (.iload 4) 2 (zc 1640 true (.iconst 3) 1 (zc 1641 true (.iadd) 1 (zc 1642 true (.iaload) 1 (zc 1643 true (.invokevirtual 180) 3 (zc 1646 true (.pop) 1 (zc 1647 true (.goto 306) 3 (zc 1650 true (.aload_n 1) 1 (zc 1651 true (.aload_n 0) 1 (zc 1652 true (.iload 4) 2 (zc 1654 true (.iconst 1) 1 (zc 1655 true (.iadd) 1 (zc 1656 true (.iaload) 1 (zc 1657 true (.aload_n 0) 1 (zc 1658 true (.iload 4) 2 (zc 1660 true (.iconst 2) 1 (zc 1661 true (.iadd) 1 (zc 1662 true (.iaload) 1 (zc 1663 true (.invokevirtual 181) 3 (zc 1666 true (.pop) 1 (zc 1667 true (.aload_n 2) 1 (zc 1668 true (.aload_n 0) 1 ([]))))))))))))))))))))))))))))))))))))))))))))))))))))))))))))))))
theorem zrL_law_15_ok : zck 1583 ((zby cL_law).drop 1583) zrL_law_15 = true := by decide +kernel
noncomputable def zrL_law_16 : List ZR := zc 1669 true (.iload 4) 2 (zc 1671 true (.iconst 1) 1 (zc 1672 true (.iadd) 1 (zc 1673 true (.iaload) 1 (zc 1674 true (.aload_n 0) 1 (zc 1675 true (.iload 4) 2 (zc 1677 true (.iconst 2) 1 (zc 1678 true (.iadd) 1 (zc 1679 true (.iaload) 1 (zc 1680 true (.invokevirtual 184) 3 (zc 1683 true (.pop) 1 (zc 1684 true (.goto 269) 3 (zc 1687 true (.aload_n 1) 1 (zc 1688 true (.aload_n 0) 1 (zc 1689 true (.iload 4) 2 (zc 1691 true (.iconst 1) 1 (zc 1692 true (.iadd) 1 (zc 1693 true (.iaload) 1 (zc 1694 true (.aload_n 0) 1 (zc 1695 true (.iload 4) 2 (zc 1697 true (.iconst 2) 1 (zc 1698 true (.iadd) 1 (zc 1699 true (.iaload) 1 (zc 1700 true (.aload_n 0) 1 (zc 1701 true (.iload 4) 2 (zc 1703 true (.iconst 3) 1 (zc 1704 true (.iadd) 1 (zc 1705 true (.iaload) 1 (zc 1706 true (.aload_n 0) 1 (zc 1707 true (.iload 4) 2 (zc 1709 true (.iconst 4) 1 (zc 1710 true (.iadd) 1 (zc 1711 true (.iaload) 1 (zc 1712 true (.invokevirtual 185) 3 (zc 1715 true (.pop) 1 (zc 1716 true (.aload_n 2) 1 (zc 1717 true (.aload_n 0) 1 (zc 1718 true (.iload 4) 2 (zc 1720 true (.iconst 1) 1 (zc 1721 true (.iadd) 1 (zc 1722 true (.iaload) 1 (zc 1723 true (.aload_n 0) 1 (zc 1724 true (.iload 4) 2 (zc 1726 true (.iconst 2) 1 (zc 1727 true (.iadd) 1 (zc 1728 true (.iaload) 1 (zc 1729 true (.aload_n 0) 1 (zc 1730 true (.iload 4) 2 (zc 1732 true (.iconst 3) 1 (zc 1733 true (.iadd) 1 (zc 1734 true (.iaload) 1 (zc 1735 true (.aload_n 0) 1 (zc 1736 true (.iload 4) 2 (zc 1738 true (.iconst 4) 1 (zc 1739 true (.iadd) 1 (zc 1740 true (.iaload) 1 (zc 1741 true (.invokevirtual 189) 3 (zc 1744 true (.pop) 1 (zc 1745 true (.goto 208) 3 (zc 1748 true (.aload_n 1) 1 (zc 1749 true (.aload_n 0) 1 (zc 1750 true (.iload 4) 2 (zc 1752 true (.iconst 1) 1 (zc 1753 true (.iadd) 1 ([]))))))))))))))))))))))))))))))))))))))))))))))))))))))))))))))))
theorem zrL_law_16_ok : zck 1669 ((zby cL_law).drop 1669) zrL_law_16 = true := by decide +kernel
noncomputable def zrL_law_17 : List ZR := zc 1754 true (.iaload) 1 (zc 1755 true (.invokevirtual 190) 3 (zc 1758 true (.pop) 1 (zc 1759 true (.aload_n 2) 1 (zc 1760 true (.aload_n 0) 1 (zc 1761 true (.iload 4) 2 (zc 1763 true (.iconst 1) 1 (zc 1764 true (.iadd) 1 (zc 1765 true (.iaload) 1 (zc 1766 true (.invokevirtual 194) 3 (zc 1769 true (.pop) 1 (zc 1770 true (.goto 183) 3 (zc 1773 true (.aload_n 1) 1 (zc 1774 true (.aload_n 0) 1 (zc 1775 true (.iload 4) 2 (zc 1777 true (.iconst 1) 1 (zc 1778 true (.iadd) 1 (zc 1779 true (.iaload) 1 (zc 1780 true (.invokevirtual 195) 3 (zc 1783 true (.pop) 1 (zc 1784 true (.aload_n 2) 1 (zc 1785 true (.aload_n 0) 1 (zc 1786 true (.iload 4) 2 (zc 1788 true (.iconst 1) 1 (zc 1789 true (.iadd) 1 (zc 1790 true (.iaload) 1 (zc 1791 true (.invokevirtual 198) 3 (zc 1794 true (.pop) 1 (zc 1795 true (.goto 158) 3 (zc 1798 true (.aload_n 1) 1 (zc 1799 true (.invokevirtual 199) 3 (zc 1802 true (.pop) 1 (zc 1803 true (.aload_n 2) 1 (zc 1804 true (.invokevirtual 202) 3 (zc 1807 true (.pop) 1 (zc 1808 true (.goto 145) 3 (zc 1811 true (.aload_n 1) 1 (zc 1812 true (.aload_n 0) 1 (zc 1813 true (.iload 4) 2 (zc 1815 true (.iconst 1) 1 (zc 1816 true (.iadd) 1 (zc 1817 true (.iaload) 1 (zc 1818 true (.invokevirtual 203) 3 (zc 1821 true (.pop) 1 (zc 1822 true (.aload_n 2) 1 (zc 1823 true (.aload_n 0) 1 (zc 1824 true (.iload 4) 2 (zc 1826 true (.iconst 1) 1 (zc 1827 true (.iadd) 1 (zc 1828 true (.iaload) 1 (zc 1829 true (.invokevirtual 206) 3 (zc 1832 true (.pop) 1 (zc 1833 true (.goto 120) 3 (zc 1836 true (.aload_n 1) 1 (zc 1837 true (.invokevirtual 207) 3 (zc 1840 true (.pop) 1 (zc 1841 true (.aload_n 2) 1 (zc 1842 true (.invokevirtual 211) 3 (zc 1845 true (.pop) 1 (zc 1846 true (.goto 107) 3 (zc 1849 true (.aload_n 1) 1 (zc 1850 true (.invokevirtual 212) 3 (zc 1853 true (.pop) 1 (zc 1854 true (.aload_n 2) 1 ([]))))))))))))))))))))))))))))))))))))))))))))))))))))))))))))))))
theorem zrL_law_17_ok : zck 1754 ((zby cL_law).drop 1754) zrL_law_17 = true := by decide +kernel
noncomputable def zrL_law_18 : List ZR := zc 1855 true (.invokevirtual 215) 3 (zc 1858 true (.pop) 1 (zc 1859 true (.goto 94) 3 (zc 1862 true (.aload_n 1) 1 (zc 1863 true (.aload_n 0) 1 (zc 1864 true (.iload 4) 2 (zc 1866 true (.iconst 1) 1 (zc 1867 true (.iadd) 1 (zc 1868 true (.iaload) 1 (zc 1869 true (.invokevirtual 216) 3 (zc 1872 true (.pop) 1 (zc 1873 true (.aload_n 2) 1 (zc 1874 true (.aload_n 0) 1 (zc 1875 true (.iload 4) 2 (zc 1877 true (.iconst 1) 1 (zc 1878 true (.iadd) 1 (zc 1879 true (.iaload) 1 (zc 1880 true (.invokevirtual 219) 3 (zc 1883 true (.pop) 1 (zc 1884 true (.goto 69) 3 (zc 1887 true (.aload_n 1) 1 (zc 1888 true (.aload_n 0) 1 (zc 1889 true (.iload 4) 2 (zc 1891 true (.iconst 1) 1 (zc 1892 true (.iadd) 1 (zc 1893 true (.iaload) 1 (zc 1894 true (.aload_n 3) 1 (zc 1895 true (.invokestatic 220) 3 (zc 1898 true (.istore 5) 2 (zc 1900 true (.aload_n 2) 1 (zc 1901 true (.aload_n 0) 1 (zc 1902 true (.iload 4) 2 (zc 1904 true (.iconst 1) 1 (zc 1905 true (.iadd) 1 (zc 1906 true (.iaload) 1 (zc 1907 true (.invokevirtual 225) 3 (zc 1910 true (.istore 6) 2 (zc 1912 true (.goto 41) 3 (zc 1915 true (.aload_n 1) 1 (zc 1916 true (.aload_n 0) 1 (zc 1917 true (.iload 4) 2 (zc 1919 true (.iconst 1) 1 (zc 1920 true (.iadd) 1 (zc 1921 true (.iaload) 1 (zc 1922 true (.invokevirtual 226) 3 (zc 1925 true (.pop) 1 (zc 1926 true (.aload_n 2) 1 (zc 1927 true (.aload_n 0) 1 (zc 1928 true (.iload 4) 2 (zc 1930 true (.iconst 1) 1 (zc 1931 true (.iadd) 1 (zc 1932 true (.iaload) 1 (zc 1933 true (.invokevirtual 229) 3 (zc 1936 true (.pop) 1 (zc 1937 true (.goto 16) 3 (zc 1940 true (.aload_n 1) 1 (zc 1941 true (.invokevirtual 230) 3 (zc 1944 true (.pop) 1 (zc 1945 true (.aload_n 2) 1 (zc 1946 true (.invokevirtual 233) 3 (zc 1949 true (.pop) 1 (zc 1950 true (.goto 3) 3 (zc 1953 true (.iinc 4 6) 3 (zc 1956 true (.goto (-1933)) 3 ([]))))))))))))))))))))))))))))))))))))))))))))))))))))))))))))))))
theorem zrL_law_18_ok : zck 1855 ((zby cL_law).drop 1855) zrL_law_18 = true := by decide +kernel
noncomputable def zrL_law_19 : List ZR := zc 1959 true (.iconst 1) 1 (zc 1960 true (.ireturn) 1 ([]))
theorem zrL_law_19_ok : zck 1959 ((zby cL_law).drop 1959) zrL_law_19 = true := by decide +kernel
theorem dL_law_40 : decode cL_law 40 = .ok (.tableswitch 1913 0 49 #[216, 289, 314, 327, 340, 377, 414, 439, 500, 589, 666, 743, 792, 817, 870, 883, 896, 957, 982, 1043, 1056, 1081, 1094, 1107, 1132, 1145, 1158, 1171, 1196, 1245, 1270, 1295, 1308, 1397, 1474, 1499, 1524, 1561, 1610, 1647, 1708, 1733, 1758, 1771, 1796, 1809, 1822, 1847, 1875, 1900], 216) := by decide +kernel
set_option maxRecDepth 20000 in
theorem glX_feed : GoodIn lw_tbl (wsV RL 19 RX10 yX10_feed vfX10_feed) := goodIn_app (goodIn_m (mem_c (ws := [.methodLink RL 19 yX10_feed, .instanceMethod yX10_feed, .selects RX10 yX10_feed yX10_feed, .initialized RX10]) [(2, 109), (2, 110), (2, 111), (1, 1)] (by decide +kernel)) (gd_dec (by decide +kernel))) (goodIn_m tffX10_feed qfX10_feed)
set_option maxRecDepth 20000 in
theorem glM_feed : GoodIn lw_tbl (wsV RL 23 RX12 yX12_feed vfX12_feed) := goodIn_app (goodIn_m (mem_c (ws := [.methodLink RL 23 yX12_feed, .instanceMethod yX12_feed, .selects RX12 yX12_feed yX12_feed, .initialized RX12]) [(6, 11), (6, 12), (6, 13), (1, 9)] (by decide +kernel)) (gd_dec (by decide +kernel))) (goodIn_m tffX12_feed qfX12_feed)
set_option maxRecDepth 20000 in
theorem glX_pier : GoodIn lw_tbl (wsV RL 24 RX10 yX10_pier vfX10_pier) := goodIn_app (goodIn_m (mem_c (ws := [.methodLink RL 24 yX10_pier, .instanceMethod yX10_pier, .selects RX10 yX10_pier yX10_pier, .initialized RX10]) [(2, 117), (2, 118), (2, 119), (1, 1)] (by decide +kernel)) (gd_dec (by decide +kernel))) (goodIn_m tffX10_pier qfX10_pier)
set_option maxRecDepth 20000 in
theorem glM_pier_r : GoodIn lw_tbl (wsV RL 27 RX12 yX12_pier vfX12_pier_r) := goodIn_app (goodIn_m (mem_c (ws := [.methodLink RL 27 yX12_pier, .instanceMethod yX12_pier, .selects RX12 yX12_pier yX12_pier, .initialized RX12]) [(6, 15), (6, 16), (6, 17), (1, 9)] (by decide +kernel)) (gd_dec (by decide +kernel))) (goodIn_m tffX12_pier_r qfX12_pier_r)
set_option maxRecDepth 20000 in
theorem glM_pier_f : GoodIn lw_tbl (wsV RL 27 RX12 yX12_pier vfX12_pier_f) := goodIn_app (goodIn_m (mem_c (ws := [.methodLink RL 27 yX12_pier, .instanceMethod yX12_pier, .selects RX12 yX12_pier yX12_pier, .initialized RX12]) [(6, 15), (6, 16), (6, 17), (1, 9)] (by decide +kernel)) (gd_dec (by decide +kernel))) (goodIn_m tffX12_pier_f qfX12_pier_f)
set_option maxRecDepth 20000 in
theorem glM_pier_o : GoodIn lw_tbl (wsV RL 27 RX12 yX12_pier vfX12_pier_o) := goodIn_app (goodIn_m (mem_c (ws := [.methodLink RL 27 yX12_pier, .instanceMethod yX12_pier, .selects RX12 yX12_pier yX12_pier, .initialized RX12]) [(6, 15), (6, 16), (6, 17), (1, 9)] (by decide +kernel)) (gd_dec (by decide +kernel))) (goodIn_m tffX12_pier_o qfX12_pier_o)
set_option maxRecDepth 20000 in
theorem glX_fault : GoodIn lw_tbl (wsV RL 28 RX10 yX10_fault vfX10_fault) := goodIn_app (goodIn_m (mem_c (ws := [.methodLink RL 28 yX10_fault, .instanceMethod yX10_fault, .selects RX10 yX10_fault yX10_fault, .initialized RX10]) [(3, 72), (3, 73), (3, 74), (1, 1)] (by decide +kernel)) (gd_dec (by decide +kernel))) (goodIn_m tffX10_fault qfX10_fault)
set_option maxRecDepth 20000 in
theorem glM_fault : GoodIn lw_tbl (wsV RL 32 RX12 yX12_fault vfX12_fault) := goodIn_app (goodIn_m (mem_c (ws := [.methodLink RL 32 yX12_fault, .instanceMethod yX12_fault, .selects RX12 yX12_fault yX12_fault, .initialized RX12]) [(7, 14), (7, 15), (7, 16), (1, 9)] (by decide +kernel)) (gd_dec (by decide +kernel))) (goodIn_m tffX12_fault qfX12_fault)
set_option maxRecDepth 20000 in
theorem glX_where : GoodIn lw_tbl (wsV RL 33 RX10 yX10_where vfX10_where) := goodIn_app (goodIn_m (mem_c (ws := [.methodLink RL 33 yX10_where, .instanceMethod yX10_where, .selects RX10 yX10_where yX10_where, .initialized RX10]) [(3, 76), (3, 77), (3, 78), (1, 1)] (by decide +kernel)) (gd_dec (by decide +kernel))) (goodIn_m tffX10_where qfX10_where)
set_option maxRecDepth 20000 in
theorem glM_where : GoodIn lw_tbl (wsV RL 36 RX12 yX12_where vfX12_where) := goodIn_app (goodIn_m (mem_c (ws := [.methodLink RL 36 yX12_where, .instanceMethod yX12_where, .selects RX12 yX12_where yX12_where, .initialized RX12]) [(7, 18), (7, 19), (7, 20), (1, 9)] (by decide +kernel)) (gd_dec (by decide +kernel))) (goodIn_m tffX12_where qfX12_where)
set_option maxRecDepth 20000 in
theorem glX_answer : GoodIn lw_tbl (wsV RL 37 RX10 yX10_answer vfX10_answer) := goodIn_app (goodIn_m (mem_c (ws := [.methodLink RL 37 yX10_answer, .instanceMethod yX10_answer, .selects RX10 yX10_answer yX10_answer, .initialized RX10]) [(3, 80), (3, 81), (3, 82), (1, 1)] (by decide +kernel)) (gd_dec (by decide +kernel))) (goodIn_m tffX10_answer qfX10_answer)
set_option maxRecDepth 20000 in
theorem glM_answer : GoodIn lw_tbl (wsV RL 41 RX12 yX12_answer vfX12_answer) := goodIn_app (goodIn_m (mem_c (ws := [.methodLink RL 41 yX12_answer, .instanceMethod yX12_answer, .selects RX12 yX12_answer yX12_answer, .initialized RX12]) [(7, 22), (7, 23), (7, 24), (1, 9)] (by decide +kernel)) (gd_dec (by decide +kernel))) (goodIn_m tffX12_answer qfX12_answer)
set_option maxRecDepth 20000 in
theorem glM_answer_nul : GoodIn lw_tbl (wsV RL 41 RX12 yX12_answer vfX12_answer_nul) := goodIn_app (goodIn_m (mem_c (ws := [.methodLink RL 41 yX12_answer, .instanceMethod yX12_answer, .selects RX12 yX12_answer yX12_answer, .initialized RX12]) [(7, 22), (7, 23), (7, 24), (1, 9)] (by decide +kernel)) (gd_dec (by decide +kernel))) (goodIn_m tffX12_answer_nul qfX12_answer_nul)
set_option maxRecDepth 20000 in
theorem glX_asker : GoodIn lw_tbl (wsV RL 42 RX10 yX10_asker vfX10_asker) := goodIn_app (goodIn_m (mem_c (ws := [.methodLink RL 42 yX10_asker, .instanceMethod yX10_asker, .selects RX10 yX10_asker yX10_asker, .initialized RX10]) [(3, 104), (3, 105), (3, 106), (1, 1)] (by decide +kernel)) (gd_dec (by decide +kernel))) (goodIn_m tffX10_asker qfX10_asker)
set_option maxRecDepth 20000 in
theorem glM_asker : GoodIn lw_tbl (wsV RL 45 RX12 yX12_asker vfX12_asker) := goodIn_app (goodIn_m (mem_c (ws := [.methodLink RL 45 yX12_asker, .instanceMethod yX12_asker, .selects RX12 yX12_asker yX12_asker, .initialized RX12]) [(7, 34), (7, 35), (7, 36), (1, 9)] (by decide +kernel)) (gd_dec (by decide +kernel))) (goodIn_m tffX12_asker qfX12_asker)
set_option maxRecDepth 20000 in
theorem glM_asker_nul : GoodIn lw_tbl (wsV RL 45 RX12 yX12_asker vfX12_asker_nul) := goodIn_app (goodIn_m (mem_c (ws := [.methodLink RL 45 yX12_asker, .instanceMethod yX12_asker, .selects RX12 yX12_asker yX12_asker, .initialized RX12]) [(7, 34), (7, 35), (7, 36), (1, 9)] (by decide +kernel)) (gd_dec (by decide +kernel))) (goodIn_m tffX12_asker_nul qfX12_asker_nul)
set_option maxRecDepth 20000 in
theorem glX_close : GoodIn lw_tbl (wsV RL 46 RX10 yX10_close vfX10_close) := goodIn_app (goodIn_m (mem_c (ws := [.methodLink RL 46 yX10_close, .instanceMethod yX10_close, .selects RX10 yX10_close yX10_close, .initialized RX10]) [(3, 141), (3, 142), (3, 143), (1, 1)] (by decide +kernel)) (gd_dec (by decide +kernel))) (goodIn_m tffX10_close qfX10_close)
set_option maxRecDepth 20000 in
theorem glM_close : GoodIn lw_tbl (wsV RL 49 RX12 yX12_close vfX12_close) := goodIn_app (goodIn_m (mem_c (ws := [.methodLink RL 49 yX12_close, .instanceMethod yX12_close, .selects RX12 yX12_close yX12_close, .initialized RX12]) [(7, 65), (7, 66), (7, 67), (1, 9)] (by decide +kernel)) (gd_dec (by decide +kernel))) (goodIn_m tffX12_close qfX12_close)
set_option maxRecDepth 20000 in
theorem glM_close_nul : GoodIn lw_tbl (wsV RL 49 RX12 yX12_close vfX12_close_nul) := goodIn_app (goodIn_m (mem_c (ws := [.methodLink RL 49 yX12_close, .instanceMethod yX12_close, .selects RX12 yX12_close yX12_close, .initialized RX12]) [(7, 65), (7, 66), (7, 67), (1, 9)] (by decide +kernel)) (gd_dec (by decide +kernel))) (goodIn_m tffX12_close_nul qfX12_close_nul)
set_option maxRecDepth 20000 in
theorem glX_wish : GoodIn lw_tbl (wsV RL 50 RX10 yX10_wish vfX10_wish) := goodIn_app (goodIn_m (mem_c (ws := [.methodLink RL 50 yX10_wish, .instanceMethod yX10_wish, .selects RX10 yX10_wish yX10_wish, .initialized RX10]) [(3, 157), (3, 158), (3, 159), (1, 1)] (by decide +kernel)) (gd_dec (by decide +kernel))) (goodIn_m tffX10_wish qfX10_wish)
set_option maxRecDepth 20000 in
theorem glM_wish : GoodIn lw_tbl (wsV RL 54 RX12 yX12_wish vfX12_wish) := goodIn_app (goodIn_m (mem_c (ws := [.methodLink RL 54 yX12_wish, .instanceMethod yX12_wish, .selects RX12 yX12_wish yX12_wish, .initialized RX12]) [(7, 73), (7, 74), (7, 75), (1, 9)] (by decide +kernel)) (gd_dec (by decide +kernel))) (goodIn_m tffX12_wish qfX12_wish)
set_option maxRecDepth 20000 in
theorem glM_wish_nul : GoodIn lw_tbl (wsV RL 54 RX12 yX12_wish vfX12_wish_nul) := goodIn_app (goodIn_m (mem_c (ws := [.methodLink RL 54 yX12_wish, .instanceMethod yX12_wish, .selects RX12 yX12_wish yX12_wish, .initialized RX12]) [(7, 73), (7, 74), (7, 75), (1, 9)] (by decide +kernel)) (gd_dec (by decide +kernel))) (goodIn_m tffX12_wish_nul qfX12_wish_nul)
set_option maxRecDepth 20000 in
theorem glX_takes : GoodIn lw_tbl (wsV RL 55 RX10 yX10_takes vfX10_takes) := goodIn_app (goodIn_m (mem_c (ws := [.methodLink RL 55 yX10_takes, .instanceMethod yX10_takes, .selects RX10 yX10_takes yX10_takes, .initialized RX10]) [(3, 189), (3, 190), (3, 191), (1, 1)] (by decide +kernel)) (gd_dec (by decide +kernel))) (goodIn_m tffX10_takes qfX10_takes)
set_option maxRecDepth 20000 in
theorem glM_takes : GoodIn lw_tbl (wsV RL 59 RX12 yX12_takes vfX12_takes) := goodIn_app (goodIn_m (mem_c (ws := [.methodLink RL 59 yX12_takes, .instanceMethod yX12_takes, .selects RX12 yX12_takes yX12_takes, .initialized RX12]) [(7, 93), (7, 94), (7, 95), (1, 9)] (by decide +kernel)) (gd_dec (by decide +kernel))) (goodIn_m tffX12_takes qfX12_takes)
set_option maxRecDepth 20000 in
theorem glM_takes_nul : GoodIn lw_tbl (wsV RL 59 RX12 yX12_takes vfX12_takes_nul) := goodIn_app (goodIn_m (mem_c (ws := [.methodLink RL 59 yX12_takes, .instanceMethod yX12_takes, .selects RX12 yX12_takes yX12_takes, .initialized RX12]) [(7, 93), (7, 94), (7, 95), (1, 9)] (by decide +kernel)) (gd_dec (by decide +kernel))) (goodIn_m tffX12_takes_nul qfX12_takes_nul)
set_option maxRecDepth 20000 in
theorem glX_nothing : GoodIn lw_tbl (wsV RL 60 RX10 yX10_nothing vfX10_nothing) := goodIn_app (goodIn_m (mem_c (ws := [.methodLink RL 60 yX10_nothing, .instanceMethod yX10_nothing, .selects RX10 yX10_nothing yX10_nothing, .initialized RX10]) [(3, 206), (3, 207), (3, 208), (1, 1)] (by decide +kernel)) (gd_dec (by decide +kernel))) (goodIn_m tffX10_nothing qfX10_nothing)
set_option maxRecDepth 20000 in
theorem glM_nothing : GoodIn lw_tbl (wsV RL 64 RX12 yX12_nothing vfX12_nothing) := goodIn_app (goodIn_m (mem_c (ws := [.methodLink RL 64 yX12_nothing, .instanceMethod yX12_nothing, .selects RX12 yX12_nothing yX12_nothing, .initialized RX12]) [(7, 121), (7, 122), (7, 123), (1, 9)] (by decide +kernel)) (gd_dec (by decide +kernel))) (goodIn_m tffX12_nothing qfX12_nothing)
set_option maxRecDepth 20000 in
theorem glM_nothing_nul : GoodIn lw_tbl (wsV RL 64 RX12 yX12_nothing vfX12_nothing_nul) := goodIn_app (goodIn_m (mem_c (ws := [.methodLink RL 64 yX12_nothing, .instanceMethod yX12_nothing, .selects RX12 yX12_nothing yX12_nothing, .initialized RX12]) [(7, 121), (7, 122), (7, 123), (1, 9)] (by decide +kernel)) (gd_dec (by decide +kernel))) (goodIn_m tffX12_nothing_nul qfX12_nothing_nul)
set_option maxRecDepth 20000 in
theorem glX_mean : GoodIn lw_tbl (wsV RL 65 RX10 yX10_mean vfX10_mean) := goodIn_app (goodIn_m (mem_c (ws := [.methodLink RL 65 yX10_mean, .instanceMethod yX10_mean, .selects RX10 yX10_mean yX10_mean, .initialized RX10]) [(3, 210), (3, 211), (3, 212), (1, 1)] (by decide +kernel)) (gd_dec (by decide +kernel))) (goodIn_m tffX10_mean qfX10_mean)
set_option maxRecDepth 20000 in
theorem glM_mean : GoodIn lw_tbl (wsV RL 68 RX12 yX12_mean vfX12_mean) := goodIn_app (goodIn_m (mem_c (ws := [.methodLink RL 68 yX12_mean, .instanceMethod yX12_mean, .selects RX12 yX12_mean yX12_mean, .initialized RX12]) [(7, 129), (7, 130), (7, 131), (1, 9)] (by decide +kernel)) (gd_dec (by decide +kernel))) (goodIn_m tffX12_mean qfX12_mean)
set_option maxRecDepth 20000 in
theorem glM_mean_nul : GoodIn lw_tbl (wsV RL 68 RX12 yX12_mean vfX12_mean_nul) := goodIn_app (goodIn_m (mem_c (ws := [.methodLink RL 68 yX12_mean, .instanceMethod yX12_mean, .selects RX12 yX12_mean yX12_mean, .initialized RX12]) [(7, 129), (7, 130), (7, 131), (1, 9)] (by decide +kernel)) (gd_dec (by decide +kernel))) (goodIn_m tffX12_mean_nul qfX12_mean_nul)
set_option maxRecDepth 20000 in
theorem glX_likeliest : GoodIn lw_tbl (wsV RL 69 RX10 yX10_likeliest vfX10_likeliest) := goodIn_app (goodIn_m (mem_c (ws := [.methodLink RL 69 yX10_likeliest, .instanceMethod yX10_likeliest, .selects RX10 yX10_likeliest yX10_likeliest, .initialized RX10]) [(3, 218), (3, 219), (3, 220), (1, 1)] (by decide +kernel)) (gd_dec (by decide +kernel))) (goodIn_m tffX10_likeliest qfX10_likeliest)
set_option maxRecDepth 20000 in
theorem glM_likeliest : GoodIn lw_tbl (wsV RL 73 RX12 yX12_likeliest vfX12_likeliest) := goodIn_app (goodIn_m (mem_c (ws := [.methodLink RL 73 yX12_likeliest, .instanceMethod yX12_likeliest, .selects RX12 yX12_likeliest yX12_likeliest, .initialized RX12]) [(7, 137), (7, 138), (7, 139), (1, 9)] (by decide +kernel)) (gd_dec (by decide +kernel))) (goodIn_m tffX12_likeliest qfX12_likeliest)
set_option maxRecDepth 20000 in
theorem glM_likeliest_nul : GoodIn lw_tbl (wsV RL 73 RX12 yX12_likeliest vfX12_likeliest_nul) := goodIn_app (goodIn_m (mem_c (ws := [.methodLink RL 73 yX12_likeliest, .instanceMethod yX12_likeliest, .selects RX12 yX12_likeliest yX12_likeliest, .initialized RX12]) [(7, 137), (7, 138), (7, 139), (1, 9)] (by decide +kernel)) (gd_dec (by decide +kernel))) (goodIn_m tffX12_likeliest_nul qfX12_likeliest_nul)
set_option maxRecDepth 20000 in
theorem glX_surest : GoodIn lw_tbl (wsV RL 74 RX10 yX10_surest vfX10_surest) := goodIn_app (goodIn_m (mem_c (ws := [.methodLink RL 74 yX10_surest, .instanceMethod yX10_surest, .selects RX10 yX10_surest yX10_surest, .initialized RX10]) [(3, 225), (3, 226), (3, 227), (1, 1)] (by decide +kernel)) (gd_dec (by decide +kernel))) (goodIn_m tffX10_surest qfX10_surest)
set_option maxRecDepth 20000 in
theorem glM_surest : GoodIn lw_tbl (wsV RL 77 RX12 yX12_surest vfX12_surest) := goodIn_app (goodIn_m (mem_c (ws := [.methodLink RL 77 yX12_surest, .instanceMethod yX12_surest, .selects RX12 yX12_surest yX12_surest, .initialized RX12]) [(7, 141), (7, 142), (7, 143), (1, 9)] (by decide +kernel)) (gd_dec (by decide +kernel))) (goodIn_m tffX12_surest qfX12_surest)
set_option maxRecDepth 20000 in
theorem glM_surest_nul : GoodIn lw_tbl (wsV RL 77 RX12 yX12_surest vfX12_surest_nul) := goodIn_app (goodIn_m (mem_c (ws := [.methodLink RL 77 yX12_surest, .instanceMethod yX12_surest, .selects RX12 yX12_surest yX12_surest, .initialized RX12]) [(7, 141), (7, 142), (7, 143), (1, 9)] (by decide +kernel)) (gd_dec (by decide +kernel))) (goodIn_m tffX12_surest_nul qfX12_surest_nul)
set_option maxRecDepth 20000 in
theorem glX_surestOdds : GoodIn lw_tbl (wsV RL 78 RX10 yX10_surestOdds vfX10_surestOdds) := goodIn_app (goodIn_m (mem_c (ws := [.methodLink RL 78 yX10_surestOdds, .instanceMethod yX10_surestOdds, .selects RX10 yX10_surestOdds yX10_surestOdds, .initialized RX10]) [(4, 6), (4, 7), (4, 8), (1, 1)] (by decide +kernel)) (gd_dec (by decide +kernel))) (goodIn_m tffX10_surestOdds qfX10_surestOdds)
set_option maxRecDepth 20000 in
theorem glM_surestOdds : GoodIn lw_tbl (wsV RL 82 RX12 yX12_surestOdds vfX12_surestOdds) := goodIn_app (goodIn_m (mem_c (ws := [.methodLink RL 82 yX12_surestOdds, .instanceMethod yX12_surestOdds, .selects RX12 yX12_surestOdds yX12_surestOdds, .initialized RX12]) [(7, 161), (7, 162), (7, 163), (1, 9)] (by decide +kernel)) (gd_dec (by decide +kernel))) (goodIn_m tffX12_surestOdds qfX12_surestOdds)
set_option maxRecDepth 20000 in
theorem glM_surestOdds_nul : GoodIn lw_tbl (wsV RL 82 RX12 yX12_surestOdds vfX12_surestOdds_nul) := goodIn_app (goodIn_m (mem_c (ws := [.methodLink RL 82 yX12_surestOdds, .instanceMethod yX12_surestOdds, .selects RX12 yX12_surestOdds yX12_surestOdds, .initialized RX12]) [(7, 161), (7, 162), (7, 163), (1, 9)] (by decide +kernel)) (gd_dec (by decide +kernel))) (goodIn_m tffX12_surestOdds_nul qfX12_surestOdds_nul)
set_option maxRecDepth 20000 in
theorem glX_best : GoodIn lw_tbl (wsV RL 83 RX10 yX10_best vfX10_best) := goodIn_app (goodIn_m (mem_c (ws := [.methodLink RL 83 yX10_best, .instanceMethod yX10_best, .selects RX10 yX10_best yX10_best, .initialized RX10]) [(4, 10), (4, 11), (4, 12), (1, 1)] (by decide +kernel)) (gd_dec (by decide +kernel))) (goodIn_m tffX10_best qfX10_best)
set_option maxRecDepth 20000 in
theorem glM_best : GoodIn lw_tbl (wsV RL 86 RX12 yX12_best vfX12_best) := goodIn_app (goodIn_m (mem_c (ws := [.methodLink RL 86 yX12_best, .instanceMethod yX12_best, .selects RX12 yX12_best yX12_best, .initialized RX12]) [(7, 165), (7, 166), (7, 167), (1, 9)] (by decide +kernel)) (gd_dec (by decide +kernel))) (goodIn_m tffX12_best qfX12_best)
set_option maxRecDepth 20000 in
theorem glM_best_nul : GoodIn lw_tbl (wsV RL 86 RX12 yX12_best vfX12_best_nul) := goodIn_app (goodIn_m (mem_c (ws := [.methodLink RL 86 yX12_best, .instanceMethod yX12_best, .selects RX12 yX12_best yX12_best, .initialized RX12]) [(7, 165), (7, 166), (7, 167), (1, 9)] (by decide +kernel)) (gd_dec (by decide +kernel))) (goodIn_m tffX12_best_nul qfX12_best_nul)
set_option maxRecDepth 20000 in
theorem glX_bestBait : GoodIn lw_tbl (wsV RL 87 RX10 yX10_bestBait vfX10_bestBait) := goodIn_app (goodIn_m (mem_c (ws := [.methodLink RL 87 yX10_bestBait, .instanceMethod yX10_bestBait, .selects RX10 yX10_bestBait yX10_bestBait, .initialized RX10]) [(4, 18), (4, 19), (4, 20), (1, 1)] (by decide +kernel)) (gd_dec (by decide +kernel))) (goodIn_m tffX10_bestBait qfX10_bestBait)
set_option maxRecDepth 20000 in
theorem glM_bestBait : GoodIn lw_tbl (wsV RL 90 RX12 yX12_bestBait vfX12_bestBait) := goodIn_app (goodIn_m (mem_c (ws := [.methodLink RL 90 yX12_bestBait, .instanceMethod yX12_bestBait, .selects RX12 yX12_bestBait yX12_bestBait, .initialized RX12]) [(7, 169), (7, 170), (7, 171), (1, 9)] (by decide +kernel)) (gd_dec (by decide +kernel))) (goodIn_m tffX12_bestBait qfX12_bestBait)
set_option maxRecDepth 20000 in
theorem glM_bestBait_nul : GoodIn lw_tbl (wsV RL 90 RX12 yX12_bestBait vfX12_bestBait_nul) := goodIn_app (goodIn_m (mem_c (ws := [.methodLink RL 90 yX12_bestBait, .instanceMethod yX12_bestBait, .selects RX12 yX12_bestBait yX12_bestBait, .initialized RX12]) [(7, 169), (7, 170), (7, 171), (1, 9)] (by decide +kernel)) (gd_dec (by decide +kernel))) (goodIn_m tffX12_bestBait_nul qfX12_bestBait_nul)
set_option maxRecDepth 20000 in
theorem glX_hungerFor : GoodIn lw_tbl (wsV RL 91 RX10 yX10_hungerFor vfX10_hungerFor) := goodIn_app (goodIn_m (mem_c (ws := [.methodLink RL 91 yX10_hungerFor, .instanceMethod yX10_hungerFor, .selects RX10 yX10_hungerFor yX10_hungerFor, .initialized RX10]) [(4, 26), (4, 27), (4, 28), (1, 1)] (by decide +kernel)) (gd_dec (by decide +kernel))) (goodIn_m tffX10_hungerFor qfX10_hungerFor)
set_option maxRecDepth 20000 in
theorem glM_hungerFor : GoodIn lw_tbl (wsV RL 94 RX12 yX12_hungerFor vfX12_hungerFor) := goodIn_app (goodIn_m (mem_c (ws := [.methodLink RL 94 yX12_hungerFor, .instanceMethod yX12_hungerFor, .selects RX12 yX12_hungerFor yX12_hungerFor, .initialized RX12]) [(7, 173), (7, 174), (7, 175), (1, 9)] (by decide +kernel)) (gd_dec (by decide +kernel))) (goodIn_m tffX12_hungerFor qfX12_hungerFor)
set_option maxRecDepth 20000 in
theorem glM_hungerFor_nul : GoodIn lw_tbl (wsV RL 94 RX12 yX12_hungerFor vfX12_hungerFor_nul) := goodIn_app (goodIn_m (mem_c (ws := [.methodLink RL 94 yX12_hungerFor, .instanceMethod yX12_hungerFor, .selects RX12 yX12_hungerFor yX12_hungerFor, .initialized RX12]) [(7, 173), (7, 174), (7, 175), (1, 9)] (by decide +kernel)) (gd_dec (by decide +kernel))) (goodIn_m tffX12_hungerFor_nul qfX12_hungerFor_nul)
set_option maxRecDepth 20000 in
theorem glX_freeSpots : GoodIn lw_tbl (wsV RL 95 RX10 yX10_freeSpots vfX10_freeSpots) := goodIn_app (goodIn_m (mem_c (ws := [.methodLink RL 95 yX10_freeSpots, .instanceMethod yX10_freeSpots, .selects RX10 yX10_freeSpots yX10_freeSpots, .initialized RX10]) [(4, 31), (4, 32), (4, 33), (1, 1)] (by decide +kernel)) (gd_dec (by decide +kernel))) (goodIn_m tffX10_freeSpots qfX10_freeSpots)
set_option maxRecDepth 20000 in
theorem glM_freeSpots : GoodIn lw_tbl (wsV RL 98 RX12 yX12_freeSpots vfX12_freeSpots) := goodIn_app (goodIn_m (mem_c (ws := [.methodLink RL 98 yX12_freeSpots, .instanceMethod yX12_freeSpots, .selects RX12 yX12_freeSpots yX12_freeSpots, .initialized RX12]) [(7, 182), (7, 183), (7, 184), (1, 9)] (by decide +kernel)) (gd_dec (by decide +kernel))) (goodIn_m tffX12_freeSpots qfX12_freeSpots)
set_option maxRecDepth 20000 in
theorem glM_freeSpots_nul : GoodIn lw_tbl (wsV RL 98 RX12 yX12_freeSpots vfX12_freeSpots_nul) := goodIn_app (goodIn_m (mem_c (ws := [.methodLink RL 98 yX12_freeSpots, .instanceMethod yX12_freeSpots, .selects RX12 yX12_freeSpots yX12_freeSpots, .initialized RX12]) [(7, 182), (7, 183), (7, 184), (1, 9)] (by decide +kernel)) (gd_dec (by decide +kernel))) (goodIn_m tffX12_freeSpots_nul qfX12_freeSpots_nul)
set_option maxRecDepth 20000 in
theorem glX_tangles : GoodIn lw_tbl (wsV RL 99 RX10 yX10_tangles vfX10_tangles) := goodIn_app (goodIn_m (mem_c (ws := [.methodLink RL 99 yX10_tangles, .instanceMethod yX10_tangles, .selects RX10 yX10_tangles yX10_tangles, .initialized RX10]) [(4, 35), (4, 36), (4, 37), (1, 1)] (by decide +kernel)) (gd_dec (by decide +kernel))) (goodIn_m tffX10_tangles qfX10_tangles)
set_option maxRecDepth 20000 in
theorem glM_tangles : GoodIn lw_tbl (wsV RL 102 RX12 yX12_tangles vfX12_tangles) := goodIn_app (goodIn_m (mem_c (ws := [.methodLink RL 102 yX12_tangles, .instanceMethod yX12_tangles, .selects RX12 yX12_tangles yX12_tangles, .initialized RX12]) [(7, 178), (7, 179), (7, 180), (1, 9)] (by decide +kernel)) (gd_dec (by decide +kernel))) (goodIn_m tffX12_tangles qfX12_tangles)
set_option maxRecDepth 20000 in
theorem glM_tangles_nul : GoodIn lw_tbl (wsV RL 102 RX12 yX12_tangles vfX12_tangles_nul) := goodIn_app (goodIn_m (mem_c (ws := [.methodLink RL 102 yX12_tangles, .instanceMethod yX12_tangles, .selects RX12 yX12_tangles yX12_tangles, .initialized RX12]) [(7, 178), (7, 179), (7, 180), (1, 9)] (by decide +kernel)) (gd_dec (by decide +kernel))) (goodIn_m tffX12_tangles_nul qfX12_tangles_nul)
set_option maxRecDepth 20000 in
theorem glX_seatings : GoodIn lw_tbl (wsV RL 103 RX10 yX10_seatings vfX10_seatings) := goodIn_app (goodIn_m (mem_c (ws := [.methodLink RL 103 yX10_seatings, .instanceMethod yX10_seatings, .selects RX10 yX10_seatings yX10_seatings, .initialized RX10]) [(4, 40), (4, 41), (4, 42), (1, 1)] (by decide +kernel)) (gd_dec (by decide +kernel))) (goodIn_m tffX10_seatings qfX10_seatings)
set_option maxRecDepth 20000 in
theorem glM_seatings : GoodIn lw_tbl (wsV RL 106 RX12 yX12_seatings vfX12_seatings) := goodIn_app (goodIn_m (mem_c (ws := [.methodLink RL 106 yX12_seatings, .instanceMethod yX12_seatings, .selects RX12 yX12_seatings yX12_seatings, .initialized RX12]) [(7, 186), (7, 187), (7, 188), (1, 9)] (by decide +kernel)) (gd_dec (by decide +kernel))) (goodIn_m tffX12_seatings qfX12_seatings)
set_option maxRecDepth 20000 in
theorem glM_seatings_nul : GoodIn lw_tbl (wsV RL 106 RX12 yX12_seatings vfX12_seatings_nul) := goodIn_app (goodIn_m (mem_c (ws := [.methodLink RL 106 yX12_seatings, .instanceMethod yX12_seatings, .selects RX12 yX12_seatings yX12_seatings, .initialized RX12]) [(7, 186), (7, 187), (7, 188), (1, 9)] (by decide +kernel)) (gd_dec (by decide +kernel))) (goodIn_m tffX12_seatings_nul qfX12_seatings_nul)
set_option maxRecDepth 20000 in
theorem glX_seat : GoodIn lw_tbl (wsV RL 107 RX10 yX10_seat vfX10_seat) := goodIn_app (goodIn_m (mem_c (ws := [.methodLink RL 107 yX10_seat, .instanceMethod yX10_seat, .selects RX10 yX10_seat yX10_seat, .initialized RX10]) [(4, 68), (4, 69), (4, 70), (1, 1)] (by decide +kernel)) (gd_dec (by decide +kernel))) (goodIn_m tffX10_seat qfX10_seat)
set_option maxRecDepth 20000 in
theorem glM_seat : GoodIn lw_tbl (wsV RL 110 RX12 yX12_seat vfX12_seat) := goodIn_app (goodIn_m (mem_c (ws := [.methodLink RL 110 yX12_seat, .instanceMethod yX12_seat, .selects RX12 yX12_seat yX12_seat, .initialized RX12]) [(7, 213), (7, 214), (7, 215), (1, 9)] (by decide +kernel)) (gd_dec (by decide +kernel))) (goodIn_m tffX12_seat qfX12_seat)
set_option maxRecDepth 20000 in
theorem glM_seat_nul : GoodIn lw_tbl (wsV RL 110 RX12 yX12_seat vfX12_seat_nul) := goodIn_app (goodIn_m (mem_c (ws := [.methodLink RL 110 yX12_seat, .instanceMethod yX12_seat, .selects RX12 yX12_seat yX12_seat, .initialized RX12]) [(7, 213), (7, 214), (7, 215), (1, 9)] (by decide +kernel)) (gd_dec (by decide +kernel))) (goodIn_m tffX12_seat_nul qfX12_seat_nul)
set_option maxRecDepth 20000 in
theorem glX_mostSeated : GoodIn lw_tbl (wsV RL 111 RX10 yX10_mostSeated vfX10_mostSeated) := goodIn_app (goodIn_m (mem_c (ws := [.methodLink RL 111 yX10_mostSeated, .instanceMethod yX10_mostSeated, .selects RX10 yX10_mostSeated yX10_mostSeated, .initialized RX10]) [(4, 72), (4, 73), (4, 74), (1, 1)] (by decide +kernel)) (gd_dec (by decide +kernel))) (goodIn_m tffX10_mostSeated qfX10_mostSeated)
set_option maxRecDepth 20000 in
theorem glM_mostSeated : GoodIn lw_tbl (wsV RL 114 RX12 yX12_mostSeated vfX12_mostSeated) := goodIn_app (goodIn_m (mem_c (ws := [.methodLink RL 114 yX12_mostSeated, .instanceMethod yX12_mostSeated, .selects RX12 yX12_mostSeated yX12_mostSeated, .initialized RX12]) [(7, 217), (7, 218), (7, 219), (1, 9)] (by decide +kernel)) (gd_dec (by decide +kernel))) (goodIn_m tffX12_mostSeated qfX12_mostSeated)
set_option maxRecDepth 20000 in
theorem glM_mostSeated_nul : GoodIn lw_tbl (wsV RL 114 RX12 yX12_mostSeated vfX12_mostSeated_nul) := goodIn_app (goodIn_m (mem_c (ws := [.methodLink RL 114 yX12_mostSeated, .instanceMethod yX12_mostSeated, .selects RX12 yX12_mostSeated yX12_mostSeated, .initialized RX12]) [(7, 217), (7, 218), (7, 219), (1, 9)] (by decide +kernel)) (gd_dec (by decide +kernel))) (goodIn_m tffX12_mostSeated_nul qfX12_mostSeated_nul)
set_option maxRecDepth 20000 in
theorem glX_darks : GoodIn lw_tbl (wsV RL 115 RX10 yX10_darks vfX10_darks) := goodIn_app (goodIn_m (mem_c (ws := [.methodLink RL 115 yX10_darks, .instanceMethod yX10_darks, .selects RX10 yX10_darks yX10_darks, .initialized RX10]) [(4, 82), (4, 83), (4, 84), (1, 1)] (by decide +kernel)) (gd_dec (by decide +kernel))) (goodIn_m tffX10_darks qfX10_darks)
set_option maxRecDepth 20000 in
theorem glM_darks : GoodIn lw_tbl (wsV RL 118 RX12 yX12_darks vfX12_darks) := goodIn_app (goodIn_m (mem_c (ws := [.methodLink RL 118 yX12_darks, .instanceMethod yX12_darks, .selects RX12 yX12_darks yX12_darks, .initialized RX12]) [(7, 224), (7, 225), (7, 226), (1, 9)] (by decide +kernel)) (gd_dec (by decide +kernel))) (goodIn_m tffX12_darks qfX12_darks)
set_option maxRecDepth 20000 in
theorem glM_darks_nul : GoodIn lw_tbl (wsV RL 118 RX12 yX12_darks vfX12_darks_nul) := goodIn_app (goodIn_m (mem_c (ws := [.methodLink RL 118 yX12_darks, .instanceMethod yX12_darks, .selects RX12 yX12_darks yX12_darks, .initialized RX12]) [(7, 224), (7, 225), (7, 226), (1, 9)] (by decide +kernel)) (gd_dec (by decide +kernel))) (goodIn_m tffX12_darks_nul qfX12_darks_nul)
set_option maxRecDepth 20000 in
theorem glX_darkAt : GoodIn lw_tbl (wsV RL 119 RX10 yX10_darkAt vfX10_darkAt) := goodIn_app (goodIn_m (mem_c (ws := [.methodLink RL 119 yX10_darkAt, .instanceMethod yX10_darkAt, .selects RX10 yX10_darkAt yX10_darkAt, .initialized RX10]) [(4, 106), (4, 107), (4, 108), (1, 1)] (by decide +kernel)) (gd_dec (by decide +kernel))) (goodIn_m tffX10_darkAt qfX10_darkAt)
set_option maxRecDepth 20000 in
theorem glM_darkAt : GoodIn lw_tbl (wsV RL 122 RX12 yX12_darkAt vfX12_darkAt) := goodIn_app (goodIn_m (mem_c (ws := [.methodLink RL 122 yX12_darkAt, .instanceMethod yX12_darkAt, .selects RX12 yX12_darkAt yX12_darkAt, .initialized RX12]) [(8, 4), (8, 5), (8, 6), (1, 9)] (by decide +kernel)) (gd_dec (by decide +kernel))) (goodIn_m tffX12_darkAt qfX12_darkAt)
set_option maxRecDepth 20000 in
theorem glM_darkAt_nul : GoodIn lw_tbl (wsV RL 122 RX12 yX12_darkAt vfX12_darkAt_nul) := goodIn_app (goodIn_m (mem_c (ws := [.methodLink RL 122 yX12_darkAt, .instanceMethod yX12_darkAt, .selects RX12 yX12_darkAt yX12_darkAt, .initialized RX12]) [(8, 4), (8, 5), (8, 6), (1, 9)] (by decide +kernel)) (gd_dec (by decide +kernel))) (goodIn_m tffX12_darkAt_nul qfX12_darkAt_nul)
set_option maxRecDepth 20000 in
theorem glX_darkSpots : GoodIn lw_tbl (wsV RL 123 RX10 yX10_darkSpots vfX10_darkSpots) := goodIn_app (goodIn_m (mem_c (ws := [.methodLink RL 123 yX10_darkSpots, .instanceMethod yX10_darkSpots, .selects RX10 yX10_darkSpots yX10_darkSpots, .initialized RX10]) [(4, 110), (4, 111), (4, 112), (1, 1)] (by decide +kernel)) (gd_dec (by decide +kernel))) (goodIn_m tffX10_darkSpots qfX10_darkSpots)
set_option maxRecDepth 20000 in
theorem glM_darkSpots : GoodIn lw_tbl (wsV RL 126 RX12 yX12_darkSpots vfX12_darkSpots) := goodIn_app (goodIn_m (mem_c (ws := [.methodLink RL 126 yX12_darkSpots, .instanceMethod yX12_darkSpots, .selects RX12 yX12_darkSpots yX12_darkSpots, .initialized RX12]) [(8, 8), (8, 9), (8, 10), (1, 9)] (by decide +kernel)) (gd_dec (by decide +kernel))) (goodIn_m tffX12_darkSpots qfX12_darkSpots)
set_option maxRecDepth 20000 in
theorem glM_darkSpots_nul : GoodIn lw_tbl (wsV RL 126 RX12 yX12_darkSpots vfX12_darkSpots_nul) := goodIn_app (goodIn_m (mem_c (ws := [.methodLink RL 126 yX12_darkSpots, .instanceMethod yX12_darkSpots, .selects RX12 yX12_darkSpots yX12_darkSpots, .initialized RX12]) [(8, 8), (8, 9), (8, 10), (1, 9)] (by decide +kernel)) (gd_dec (by decide +kernel))) (goodIn_m tffX12_darkSpots_nul qfX12_darkSpots_nul)
set_option maxRecDepth 20000 in
theorem glX_ask : GoodIn lw_tbl (wsV RL 127 RX10 yX10_ask vfX10_ask) := goodIn_app (goodIn_m (mem_c (ws := [.methodLink RL 127 yX10_ask, .instanceMethod yX10_ask, .selects RX10 yX10_ask yX10_ask, .initialized RX10]) [(4, 114), (4, 115), (4, 116), (1, 1)] (by decide +kernel)) (gd_dec (by decide +kernel))) (goodIn_m tffX10_ask qfX10_ask)
set_option maxRecDepth 20000 in
theorem glM_ask : GoodIn lw_tbl (wsV RL 130 RX12 yX12_ask vfX12_ask) := goodIn_app (goodIn_m (mem_c (ws := [.methodLink RL 130 yX12_ask, .instanceMethod yX12_ask, .selects RX12 yX12_ask yX12_ask, .initialized RX12]) [(8, 12), (8, 13), (8, 14), (1, 9)] (by decide +kernel)) (gd_dec (by decide +kernel))) (goodIn_m tffX12_ask qfX12_ask)
set_option maxRecDepth 20000 in
theorem glM_ask_nul : GoodIn lw_tbl (wsV RL 130 RX12 yX12_ask vfX12_ask_nul) := goodIn_app (goodIn_m (mem_c (ws := [.methodLink RL 130 yX12_ask, .instanceMethod yX12_ask, .selects RX12 yX12_ask yX12_ask, .initialized RX12]) [(8, 12), (8, 13), (8, 14), (1, 9)] (by decide +kernel)) (gd_dec (by decide +kernel))) (goodIn_m tffX12_ask_nul qfX12_ask_nul)
set_option maxRecDepth 20000 in
theorem glX_askLeaves : GoodIn lw_tbl (wsV RL 131 RX10 yX10_askLeaves vfX10_askLeaves) := goodIn_app (goodIn_m (mem_c (ws := [.methodLink RL 131 yX10_askLeaves, .instanceMethod yX10_askLeaves, .selects RX10 yX10_askLeaves yX10_askLeaves, .initialized RX10]) [(4, 127), (4, 128), (4, 129), (1, 1)] (by decide +kernel)) (gd_dec (by decide +kernel))) (goodIn_m tffX10_askLeaves qfX10_askLeaves)
set_option maxRecDepth 20000 in
theorem glM_askLeaves : GoodIn lw_tbl (wsV RL 134 RX12 yX12_askLeaves vfX12_askLeaves) := goodIn_app (goodIn_m (mem_c (ws := [.methodLink RL 134 yX12_askLeaves, .instanceMethod yX12_askLeaves, .selects RX12 yX12_askLeaves yX12_askLeaves, .initialized RX12]) [(8, 25), (8, 26), (8, 27), (1, 9)] (by decide +kernel)) (gd_dec (by decide +kernel))) (goodIn_m tffX12_askLeaves qfX12_askLeaves)
set_option maxRecDepth 20000 in
theorem glM_askLeaves_nul : GoodIn lw_tbl (wsV RL 134 RX12 yX12_askLeaves vfX12_askLeaves_nul) := goodIn_app (goodIn_m (mem_c (ws := [.methodLink RL 134 yX12_askLeaves, .instanceMethod yX12_askLeaves, .selects RX12 yX12_askLeaves yX12_askLeaves, .initialized RX12]) [(8, 25), (8, 26), (8, 27), (1, 9)] (by decide +kernel)) (gd_dec (by decide +kernel))) (goodIn_m tffX12_askLeaves_nul qfX12_askLeaves_nul)
set_option maxRecDepth 20000 in
theorem glX_judge : GoodIn lw_tbl (wsV RL 135 RX10 yX10_judge vfX10_judge) := goodIn_app (goodIn_m (mem_c (ws := [.methodLink RL 135 yX10_judge, .instanceMethod yX10_judge, .selects RX10 yX10_judge yX10_judge, .initialized RX10]) [(4, 132), (4, 133), (4, 134), (1, 1)] (by decide +kernel)) (gd_dec (by decide +kernel))) (goodIn_m tffX10_judge qfX10_judge)
set_option maxRecDepth 20000 in
theorem glM_judge : GoodIn lw_tbl (wsV RL 138 RX12 yX12_judge vfX12_judge) := goodIn_app (goodIn_m (mem_c (ws := [.methodLink RL 138 yX12_judge, .instanceMethod yX12_judge, .selects RX12 yX12_judge yX12_judge, .initialized RX12]) [(8, 29), (8, 30), (8, 31), (1, 9)] (by decide +kernel)) (gd_dec (by decide +kernel))) (goodIn_m tffX12_judge qfX12_judge)
set_option maxRecDepth 20000 in
theorem glM_judge_nul : GoodIn lw_tbl (wsV RL 138 RX12 yX12_judge vfX12_judge_nul) := goodIn_app (goodIn_m (mem_c (ws := [.methodLink RL 138 yX12_judge, .instanceMethod yX12_judge, .selects RX12 yX12_judge yX12_judge, .initialized RX12]) [(8, 29), (8, 30), (8, 31), (1, 9)] (by decide +kernel)) (gd_dec (by decide +kernel))) (goodIn_m tffX12_judge_nul qfX12_judge_nul)
set_option maxRecDepth 20000 in
theorem glX_worth : GoodIn lw_tbl (wsV RL 139 RX10 yX10_worth vfX10_worth) := goodIn_app (goodIn_m (mem_c (ws := [.methodLink RL 139 yX10_worth, .instanceMethod yX10_worth, .selects RX10 yX10_worth yX10_worth, .initialized RX10]) [(4, 136), (4, 137), (4, 138), (1, 1)] (by decide +kernel)) (gd_dec (by decide +kernel))) (goodIn_m tffX10_worth qfX10_worth)
set_option maxRecDepth 20000 in
theorem glM_worth : GoodIn lw_tbl (wsV RL 142 RX12 yX12_worth vfX12_worth) := goodIn_app (goodIn_m (mem_c (ws := [.methodLink RL 142 yX12_worth, .instanceMethod yX12_worth, .selects RX12 yX12_worth yX12_worth, .initialized RX12]) [(8, 33), (8, 34), (8, 35), (1, 9)] (by decide +kernel)) (gd_dec (by decide +kernel))) (goodIn_m tffX12_worth qfX12_worth)
set_option maxRecDepth 20000 in
theorem glM_worth_nul : GoodIn lw_tbl (wsV RL 142 RX12 yX12_worth vfX12_worth_nul) := goodIn_app (goodIn_m (mem_c (ws := [.methodLink RL 142 yX12_worth, .instanceMethod yX12_worth, .selects RX12 yX12_worth yX12_worth, .initialized RX12]) [(8, 33), (8, 34), (8, 35), (1, 9)] (by decide +kernel)) (gd_dec (by decide +kernel))) (goodIn_m tffX12_worth_nul qfX12_worth_nul)
set_option maxRecDepth 20000 in
theorem glX_load : GoodIn lw_tbl (wsV RL 143 RX10 yX10_load vfX10_load) := goodIn_app (goodIn_m (mem_c (ws := [.methodLink RL 143 yX10_load, .instanceMethod yX10_load, .selects RX10 yX10_load yX10_load, .initialized RX10]) [(4, 141), (4, 142), (4, 143), (1, 1)] (by decide +kernel)) (gd_dec (by decide +kernel))) (goodIn_m tffX10_load qfX10_load)
set_option maxRecDepth 20000 in
theorem glM_load : GoodIn lw_tbl (wsV RL 146 RX12 yX12_load vfX12_load) := goodIn_app (goodIn_m (mem_c (ws := [.methodLink RL 146 yX12_load, .instanceMethod yX12_load, .selects RX12 yX12_load yX12_load, .initialized RX12]) [(8, 37), (8, 38), (8, 39), (1, 9)] (by decide +kernel)) (gd_dec (by decide +kernel))) (goodIn_m tffX12_load qfX12_load)
set_option maxRecDepth 20000 in
theorem glM_load_nul : GoodIn lw_tbl (wsV RL 146 RX12 yX12_load vfX12_load_nul) := goodIn_app (goodIn_m (mem_c (ws := [.methodLink RL 146 yX12_load, .instanceMethod yX12_load, .selects RX12 yX12_load yX12_load, .initialized RX12]) [(8, 37), (8, 38), (8, 39), (1, 9)] (by decide +kernel)) (gd_dec (by decide +kernel))) (goodIn_m tffX12_load_nul qfX12_load_nul)
set_option maxRecDepth 20000 in
theorem glX_loadWorth : GoodIn lw_tbl (wsV RL 147 RX10 yX10_loadWorth vfX10_loadWorth) := goodIn_app (goodIn_m (mem_c (ws := [.methodLink RL 147 yX10_loadWorth, .instanceMethod yX10_loadWorth, .selects RX10 yX10_loadWorth yX10_loadWorth, .initialized RX10]) [(4, 156), (4, 157), (4, 158), (1, 1)] (by decide +kernel)) (gd_dec (by decide +kernel))) (goodIn_m tffX10_loadWorth qfX10_loadWorth)
set_option maxRecDepth 20000 in
theorem glM_loadWorth : GoodIn lw_tbl (wsV RL 150 RX12 yX12_loadWorth vfX12_loadWorth) := goodIn_app (goodIn_m (mem_c (ws := [.methodLink RL 150 yX12_loadWorth, .instanceMethod yX12_loadWorth, .selects RX12 yX12_loadWorth yX12_loadWorth, .initialized RX12]) [(8, 53), (8, 54), (8, 55), (1, 9)] (by decide +kernel)) (gd_dec (by decide +kernel))) (goodIn_m tffX12_loadWorth qfX12_loadWorth)
set_option maxRecDepth 20000 in
theorem glM_loadWorth_nul : GoodIn lw_tbl (wsV RL 150 RX12 yX12_loadWorth vfX12_loadWorth_nul) := goodIn_app (goodIn_m (mem_c (ws := [.methodLink RL 150 yX12_loadWorth, .instanceMethod yX12_loadWorth, .selects RX12 yX12_loadWorth yX12_loadWorth, .initialized RX12]) [(8, 53), (8, 54), (8, 55), (1, 9)] (by decide +kernel)) (gd_dec (by decide +kernel))) (goodIn_m tffX12_loadWorth_nul qfX12_loadWorth_nul)
set_option maxRecDepth 20000 in
theorem glX_bestDay : GoodIn lw_tbl (wsV RL 151 RX10 yX10_bestDay vfX10_bestDay) := goodIn_app (goodIn_m (mem_c (ws := [.methodLink RL 151 yX10_bestDay, .instanceMethod yX10_bestDay, .selects RX10 yX10_bestDay yX10_bestDay, .initialized RX10]) [(4, 161), (4, 162), (4, 163), (1, 1)] (by decide +kernel)) (gd_dec (by decide +kernel))) (goodIn_m tffX10_bestDay qfX10_bestDay)
set_option maxRecDepth 20000 in
theorem glM_bestDay : GoodIn lw_tbl (wsV RL 154 RX12 yX12_bestDay vfX12_bestDay) := goodIn_app (goodIn_m (mem_c (ws := [.methodLink RL 154 yX12_bestDay, .instanceMethod yX12_bestDay, .selects RX12 yX12_bestDay yX12_bestDay, .initialized RX12]) [(8, 57), (8, 58), (8, 59), (1, 9)] (by decide +kernel)) (gd_dec (by decide +kernel))) (goodIn_m tffX12_bestDay qfX12_bestDay)
set_option maxRecDepth 20000 in
theorem glM_bestDay_nul : GoodIn lw_tbl (wsV RL 154 RX12 yX12_bestDay vfX12_bestDay_nul) := goodIn_app (goodIn_m (mem_c (ws := [.methodLink RL 154 yX12_bestDay, .instanceMethod yX12_bestDay, .selects RX12 yX12_bestDay yX12_bestDay, .initialized RX12]) [(8, 57), (8, 58), (8, 59), (1, 9)] (by decide +kernel)) (gd_dec (by decide +kernel))) (goodIn_m tffX12_bestDay_nul qfX12_bestDay_nul)
set_option maxRecDepth 20000 in
theorem glX_hooks : GoodIn lw_tbl (wsV RL 155 RX10 yX10_hooks vfX10_hooks) := goodIn_app (goodIn_m (mem_c (ws := [.methodLink RL 155 yX10_hooks, .instanceMethod yX10_hooks, .selects RX10 yX10_hooks yX10_hooks, .initialized RX10]) [(4, 166), (4, 167), (4, 168), (1, 1)] (by decide +kernel)) (gd_dec (by decide +kernel))) (goodIn_m tffX10_hooks qfX10_hooks)
set_option maxRecDepth 20000 in
theorem glM_hooks : GoodIn lw_tbl (wsV RL 159 RX12 yX12_hooks vfX12_hooks) := goodIn_app (goodIn_m (mem_c (ws := [.methodLink RL 159 yX12_hooks, .instanceMethod yX12_hooks, .selects RX12 yX12_hooks yX12_hooks, .initialized RX12]) [(8, 61), (8, 62), (8, 63), (1, 9)] (by decide +kernel)) (gd_dec (by decide +kernel))) (goodIn_m tffX12_hooks qfX12_hooks)
set_option maxRecDepth 20000 in
theorem glM_hooks_nul : GoodIn lw_tbl (wsV RL 159 RX12 yX12_hooks vfX12_hooks_nul) := goodIn_app (goodIn_m (mem_c (ws := [.methodLink RL 159 yX12_hooks, .instanceMethod yX12_hooks, .selects RX12 yX12_hooks yX12_hooks, .initialized RX12]) [(8, 61), (8, 62), (8, 63), (1, 9)] (by decide +kernel)) (gd_dec (by decide +kernel))) (goodIn_m tffX12_hooks_nul qfX12_hooks_nul)
set_option maxRecDepth 20000 in
theorem glX_lines : GoodIn lw_tbl (wsV RL 160 RX10 yX10_lines vfX10_lines) := goodIn_app (goodIn_m (mem_c (ws := [.methodLink RL 160 yX10_lines, .instanceMethod yX10_lines, .selects RX10 yX10_lines yX10_lines, .initialized RX10]) [(4, 174), (4, 175), (4, 176), (1, 1)] (by decide +kernel)) (gd_dec (by decide +kernel))) (goodIn_m tffX10_lines qfX10_lines)
set_option maxRecDepth 20000 in
theorem glM_lines : GoodIn lw_tbl (wsV RL 164 RX12 yX12_lines vfX12_lines) := goodIn_app (goodIn_m (mem_c (ws := [.methodLink RL 164 yX12_lines, .instanceMethod yX12_lines, .selects RX12 yX12_lines yX12_lines, .initialized RX12]) [(8, 65), (8, 66), (8, 67), (1, 9)] (by decide +kernel)) (gd_dec (by decide +kernel))) (goodIn_m tffX12_lines qfX12_lines)
set_option maxRecDepth 20000 in
theorem glM_lines_nul : GoodIn lw_tbl (wsV RL 164 RX12 yX12_lines vfX12_lines_nul) := goodIn_app (goodIn_m (mem_c (ws := [.methodLink RL 164 yX12_lines, .instanceMethod yX12_lines, .selects RX12 yX12_lines yX12_lines, .initialized RX12]) [(8, 65), (8, 66), (8, 67), (1, 9)] (by decide +kernel)) (gd_dec (by decide +kernel))) (goodIn_m tffX12_lines_nul qfX12_lines_nul)
set_option maxRecDepth 20000 in
theorem glX_rests : GoodIn lw_tbl (wsV RL 165 RX10 yX10_rests vfX10_rests) := goodIn_app (goodIn_m (mem_c (ws := [.methodLink RL 165 yX10_rests, .instanceMethod yX10_rests, .selects RX10 yX10_rests yX10_rests, .initialized RX10]) [(4, 181), (4, 182), (4, 183), (1, 1)] (by decide +kernel)) (gd_dec (by decide +kernel))) (goodIn_m tffX10_rests qfX10_rests)
set_option maxRecDepth 20000 in
theorem glM_rests : GoodIn lw_tbl (wsV RL 168 RX12 yX12_rests vfX12_rests) := goodIn_app (goodIn_m (mem_c (ws := [.methodLink RL 168 yX12_rests, .instanceMethod yX12_rests, .selects RX12 yX12_rests yX12_rests, .initialized RX12]) [(8, 76), (8, 77), (8, 78), (1, 9)] (by decide +kernel)) (gd_dec (by decide +kernel))) (goodIn_m tffX12_rests qfX12_rests)
set_option maxRecDepth 20000 in
theorem glM_rests_nul : GoodIn lw_tbl (wsV RL 168 RX12 yX12_rests vfX12_rests_nul) := goodIn_app (goodIn_m (mem_c (ws := [.methodLink RL 168 yX12_rests, .instanceMethod yX12_rests, .selects RX12 yX12_rests yX12_rests, .initialized RX12]) [(8, 76), (8, 77), (8, 78), (1, 9)] (by decide +kernel)) (gd_dec (by decide +kernel))) (goodIn_m tffX12_rests_nul qfX12_rests_nul)
set_option maxRecDepth 20000 in
theorem glX_rest : GoodIn lw_tbl (wsV RL 169 RX10 yX10_rest vfX10_rest) := goodIn_app (goodIn_m (mem_c (ws := [.methodLink RL 169 yX10_rest, .instanceMethod yX10_rest, .selects RX10 yX10_rest yX10_rest, .initialized RX10]) [(4, 192), (4, 193), (4, 194), (1, 1)] (by decide +kernel)) (gd_dec (by decide +kernel))) (goodIn_m tffX10_rest qfX10_rest)
set_option maxRecDepth 20000 in
theorem glM_rest : GoodIn lw_tbl (wsV RL 172 RX12 yX12_rest vfX12_rest) := goodIn_app (goodIn_m (mem_c (ws := [.methodLink RL 172 yX12_rest, .instanceMethod yX12_rest, .selects RX12 yX12_rest yX12_rest, .initialized RX12]) [(8, 87), (8, 88), (8, 89), (1, 9)] (by decide +kernel)) (gd_dec (by decide +kernel))) (goodIn_m tffX12_rest qfX12_rest)
set_option maxRecDepth 20000 in
theorem glM_rest_nul : GoodIn lw_tbl (wsV RL 172 RX12 yX12_rest vfX12_rest_nul) := goodIn_app (goodIn_m (mem_c (ws := [.methodLink RL 172 yX12_rest, .instanceMethod yX12_rest, .selects RX12 yX12_rest yX12_rest, .initialized RX12]) [(8, 87), (8, 88), (8, 89), (1, 9)] (by decide +kernel)) (gd_dec (by decide +kernel))) (goodIn_m tffX12_rest_nul qfX12_rest_nul)
set_option maxRecDepth 20000 in
theorem glX_landed : GoodIn lw_tbl (wsV RL 173 RX10 yX10_landed vfX10_landed) := goodIn_app (goodIn_m (mem_c (ws := [.methodLink RL 173 yX10_landed, .instanceMethod yX10_landed, .selects RX10 yX10_landed yX10_landed, .initialized RX10]) [(4, 196), (4, 197), (4, 198), (1, 1)] (by decide +kernel)) (gd_dec (by decide +kernel))) (goodIn_m tffX10_landed qfX10_landed)
set_option maxRecDepth 20000 in
theorem glM_landed : GoodIn lw_tbl (wsV RL 176 RX12 yX12_landed vfX12_landed) := goodIn_app (goodIn_m (mem_c (ws := [.methodLink RL 176 yX12_landed, .instanceMethod yX12_landed, .selects RX12 yX12_landed yX12_landed, .initialized RX12]) [(8, 91), (8, 92), (8, 93), (1, 9)] (by decide +kernel)) (gd_dec (by decide +kernel))) (goodIn_m tffX12_landed qfX12_landed)
set_option maxRecDepth 20000 in
theorem glM_landed_nul : GoodIn lw_tbl (wsV RL 176 RX12 yX12_landed vfX12_landed_nul) := goodIn_app (goodIn_m (mem_c (ws := [.methodLink RL 176 yX12_landed, .instanceMethod yX12_landed, .selects RX12 yX12_landed yX12_landed, .initialized RX12]) [(8, 91), (8, 92), (8, 93), (1, 9)] (by decide +kernel)) (gd_dec (by decide +kernel))) (goodIn_m tffX12_landed_nul qfX12_landed_nul)
set_option maxRecDepth 20000 in
theorem glX_landedIn : GoodIn lw_tbl (wsV RL 177 RX10 yX10_landedIn vfX10_landedIn) := goodIn_app (goodIn_m (mem_c (ws := [.methodLink RL 177 yX10_landedIn, .instanceMethod yX10_landedIn, .selects RX10 yX10_landedIn yX10_landedIn, .initialized RX10]) [(5, 10), (5, 11), (5, 12), (1, 1)] (by decide +kernel)) (gd_dec (by decide +kernel))) (goodIn_m tffX10_landedIn qfX10_landedIn)
set_option maxRecDepth 20000 in
theorem glM_landedIn : GoodIn lw_tbl (wsV RL 180 RX12 yX12_landedIn vfX12_landedIn) := goodIn_app (goodIn_m (mem_c (ws := [.methodLink RL 180 yX12_landedIn, .instanceMethod yX12_landedIn, .selects RX12 yX12_landedIn yX12_landedIn, .initialized RX12]) [(8, 119), (8, 120), (8, 121), (1, 9)] (by decide +kernel)) (gd_dec (by decide +kernel))) (goodIn_m tffX12_landedIn qfX12_landedIn)
set_option maxRecDepth 20000 in
theorem glM_landedIn_nul : GoodIn lw_tbl (wsV RL 180 RX12 yX12_landedIn vfX12_landedIn_nul) := goodIn_app (goodIn_m (mem_c (ws := [.methodLink RL 180 yX12_landedIn, .instanceMethod yX12_landedIn, .selects RX12 yX12_landedIn yX12_landedIn, .initialized RX12]) [(8, 119), (8, 120), (8, 121), (1, 9)] (by decide +kernel)) (gd_dec (by decide +kernel))) (goodIn_m tffX12_landedIn_nul qfX12_landedIn_nul)
set_option maxRecDepth 20000 in
theorem glX_crabs : GoodIn lw_tbl (wsV RL 181 RX10 yX10_crabs vfX10_crabs) := goodIn_app (goodIn_m (mem_c (ws := [.methodLink RL 181 yX10_crabs, .instanceMethod yX10_crabs, .selects RX10 yX10_crabs yX10_crabs, .initialized RX10]) [(5, 14), (5, 15), (5, 16), (1, 1)] (by decide +kernel)) (gd_dec (by decide +kernel))) (goodIn_m tffX10_crabs qfX10_crabs)
set_option maxRecDepth 20000 in
theorem glM_crabs : GoodIn lw_tbl (wsV RL 184 RX12 yX12_crabs vfX12_crabs) := goodIn_app (goodIn_m (mem_c (ws := [.methodLink RL 184 yX12_crabs, .instanceMethod yX12_crabs, .selects RX12 yX12_crabs yX12_crabs, .initialized RX12]) [(8, 123), (8, 124), (8, 125), (1, 9)] (by decide +kernel)) (gd_dec (by decide +kernel))) (goodIn_m tffX12_crabs qfX12_crabs)
set_option maxRecDepth 20000 in
theorem glM_crabs_nul : GoodIn lw_tbl (wsV RL 184 RX12 yX12_crabs vfX12_crabs_nul) := goodIn_app (goodIn_m (mem_c (ws := [.methodLink RL 184 yX12_crabs, .instanceMethod yX12_crabs, .selects RX12 yX12_crabs yX12_crabs, .initialized RX12]) [(8, 123), (8, 124), (8, 125), (1, 9)] (by decide +kernel)) (gd_dec (by decide +kernel))) (goodIn_m tffX12_crabs_nul qfX12_crabs_nul)
set_option maxRecDepth 20000 in
theorem glX_let : GoodIn lw_tbl (wsV RL 185 RX10 yX10_let vfX10_let) := goodIn_app (goodIn_m (mem_c (ws := [.methodLink RL 185 yX10_let, .instanceMethod yX10_let, .selects RX10 yX10_let yX10_let, .initialized RX10]) [(5, 18), (5, 19), (5, 20), (1, 1)] (by decide +kernel)) (gd_dec (by decide +kernel))) (goodIn_m tffX10_let qfX10_let)
set_option maxRecDepth 20000 in
theorem glM_let : GoodIn lw_tbl (wsV RL 189 RX12 yX12_let vfX12_let) := goodIn_app (goodIn_m (mem_c (ws := [.methodLink RL 189 yX12_let, .instanceMethod yX12_let, .selects RX12 yX12_let yX12_let, .initialized RX12]) [(8, 127), (8, 128), (8, 129), (1, 9)] (by decide +kernel)) (gd_dec (by decide +kernel))) (goodIn_m tffX12_let qfX12_let)
set_option maxRecDepth 20000 in
theorem glM_let_nul : GoodIn lw_tbl (wsV RL 189 RX12 yX12_let vfX12_let_nul) := goodIn_app (goodIn_m (mem_c (ws := [.methodLink RL 189 yX12_let, .instanceMethod yX12_let, .selects RX12 yX12_let yX12_let, .initialized RX12]) [(8, 127), (8, 128), (8, 129), (1, 9)] (by decide +kernel)) (gd_dec (by decide +kernel))) (goodIn_m tffX12_let_nul qfX12_let_nul)
set_option maxRecDepth 20000 in
theorem glX_drawIn : GoodIn lw_tbl (wsV RL 190 RX10 yX10_drawIn vfX10_drawIn) := goodIn_app (goodIn_m (mem_c (ws := [.methodLink RL 190 yX10_drawIn, .instanceMethod yX10_drawIn, .selects RX10 yX10_drawIn yX10_drawIn, .initialized RX10]) [(5, 31), (5, 32), (5, 33), (1, 1)] (by decide +kernel)) (gd_dec (by decide +kernel))) (goodIn_m tffX10_drawIn qfX10_drawIn)
set_option maxRecDepth 20000 in
theorem glM_drawIn : GoodIn lw_tbl (wsV RL 194 RX12 yX12_drawIn vfX12_drawIn) := goodIn_app (goodIn_m (mem_c (ws := [.methodLink RL 194 yX12_drawIn, .instanceMethod yX12_drawIn, .selects RX12 yX12_drawIn yX12_drawIn, .initialized RX12]) [(8, 143), (8, 144), (8, 145), (1, 9)] (by decide +kernel)) (gd_dec (by decide +kernel))) (goodIn_m tffX12_drawIn qfX12_drawIn)
set_option maxRecDepth 20000 in
theorem glM_drawIn_nul : GoodIn lw_tbl (wsV RL 194 RX12 yX12_drawIn vfX12_drawIn_nul) := goodIn_app (goodIn_m (mem_c (ws := [.methodLink RL 194 yX12_drawIn, .instanceMethod yX12_drawIn, .selects RX12 yX12_drawIn yX12_drawIn, .initialized RX12]) [(8, 143), (8, 144), (8, 145), (1, 9)] (by decide +kernel)) (gd_dec (by decide +kernel))) (goodIn_m tffX12_drawIn_nul qfX12_drawIn_nul)
set_option maxRecDepth 20000 in
theorem glX_sell : GoodIn lw_tbl (wsV RL 195 RX10 yX10_sell vfX10_sell) := goodIn_app (goodIn_m (mem_c (ws := [.methodLink RL 195 yX10_sell, .instanceMethod yX10_sell, .selects RX10 yX10_sell yX10_sell, .initialized RX10]) [(5, 35), (5, 36), (5, 37), (1, 1)] (by decide +kernel)) (gd_dec (by decide +kernel))) (goodIn_m tffX10_sell qfX10_sell)
set_option maxRecDepth 20000 in
theorem glM_sell : GoodIn lw_tbl (wsV RL 198 RX12 yX12_sell vfX12_sell) := goodIn_app (goodIn_m (mem_c (ws := [.methodLink RL 198 yX12_sell, .instanceMethod yX12_sell, .selects RX12 yX12_sell yX12_sell, .initialized RX12]) [(8, 147), (8, 148), (8, 149), (1, 9)] (by decide +kernel)) (gd_dec (by decide +kernel))) (goodIn_m tffX12_sell qfX12_sell)
set_option maxRecDepth 20000 in
theorem glM_sell_nul : GoodIn lw_tbl (wsV RL 198 RX12 yX12_sell vfX12_sell_nul) := goodIn_app (goodIn_m (mem_c (ws := [.methodLink RL 198 yX12_sell, .instanceMethod yX12_sell, .selects RX12 yX12_sell yX12_sell, .initialized RX12]) [(8, 147), (8, 148), (8, 149), (1, 9)] (by decide +kernel)) (gd_dec (by decide +kernel))) (goodIn_m tffX12_sell_nul qfX12_sell_nul)
set_option maxRecDepth 20000 in
theorem glX_day : GoodIn lw_tbl (wsV RL 199 RX10 yX10_day vfX10_day) := goodIn_app (goodIn_m (mem_c (ws := [.methodLink RL 199 yX10_day, .instanceMethod yX10_day, .selects RX10 yX10_day yX10_day, .initialized RX10]) [(5, 39), (5, 40), (5, 41), (1, 1)] (by decide +kernel)) (gd_dec (by decide +kernel))) (goodIn_m tffX10_day qfX10_day)
set_option maxRecDepth 20000 in
theorem glM_day : GoodIn lw_tbl (wsV RL 202 RX12 yX12_day vfX12_day) := goodIn_app (goodIn_m (mem_c (ws := [.methodLink RL 202 yX12_day, .instanceMethod yX12_day, .selects RX12 yX12_day yX12_day, .initialized RX12]) [(8, 151), (8, 152), (8, 153), (1, 9)] (by decide +kernel)) (gd_dec (by decide +kernel))) (goodIn_m tffX12_day qfX12_day)
set_option maxRecDepth 20000 in
theorem glM_day_nul : GoodIn lw_tbl (wsV RL 202 RX12 yX12_day vfX12_day_nul) := goodIn_app (goodIn_m (mem_c (ws := [.methodLink RL 202 yX12_day, .instanceMethod yX12_day, .selects RX12 yX12_day yX12_day, .initialized RX12]) [(8, 151), (8, 152), (8, 153), (1, 9)] (by decide +kernel)) (gd_dec (by decide +kernel))) (goodIn_m tffX12_day_nul qfX12_day_nul)
set_option maxRecDepth 20000 in
theorem glX_seed : GoodIn lw_tbl (wsV RL 203 RX10 yX10_seed vfX10_seed) := goodIn_app (goodIn_m (mem_c (ws := [.methodLink RL 203 yX10_seed, .instanceMethod yX10_seed, .selects RX10 yX10_seed yX10_seed, .initialized RX10]) [(5, 44), (5, 45), (5, 46), (1, 1)] (by decide +kernel)) (gd_dec (by decide +kernel))) (goodIn_m tffX10_seed qfX10_seed)
set_option maxRecDepth 20000 in
theorem glM_seed : GoodIn lw_tbl (wsV RL 206 RX12 yX12_seed vfX12_seed) := goodIn_app (goodIn_m (mem_c (ws := [.methodLink RL 206 yX12_seed, .instanceMethod yX12_seed, .selects RX12 yX12_seed yX12_seed, .initialized RX12]) [(8, 155), (8, 156), (8, 157), (1, 9)] (by decide +kernel)) (gd_dec (by decide +kernel))) (goodIn_m tffX12_seed qfX12_seed)
set_option maxRecDepth 20000 in
theorem glM_seed_nul : GoodIn lw_tbl (wsV RL 206 RX12 yX12_seed vfX12_seed_nul) := goodIn_app (goodIn_m (mem_c (ws := [.methodLink RL 206 yX12_seed, .instanceMethod yX12_seed, .selects RX12 yX12_seed yX12_seed, .initialized RX12]) [(8, 155), (8, 156), (8, 157), (1, 9)] (by decide +kernel)) (gd_dec (by decide +kernel))) (goodIn_m tffX12_seed_nul qfX12_seed_nul)
set_option maxRecDepth 20000 in
theorem glX_undo : GoodIn lw_tbl (wsV RL 207 RX10 yX10_undo vfX10_undo) := goodIn_app (goodIn_m (mem_c (ws := [.methodLink RL 207 yX10_undo, .instanceMethod yX10_undo, .selects RX10 yX10_undo yX10_undo, .initialized RX10]) [(5, 48), (5, 49), (5, 50), (1, 1)] (by decide +kernel)) (gd_dec (by decide +kernel))) (goodIn_m tffX10_undo qfX10_undo)
set_option maxRecDepth 20000 in
theorem glM_undo : GoodIn lw_tbl (wsV RL 211 RX12 yX12_undo vfX12_undo) := goodIn_app (goodIn_m (mem_c (ws := [.methodLink RL 211 yX12_undo, .instanceMethod yX12_undo, .selects RX12 yX12_undo yX12_undo, .initialized RX12]) [(8, 159), (8, 160), (8, 161), (1, 9)] (by decide +kernel)) (gd_dec (by decide +kernel))) (goodIn_m tffX12_undo qfX12_undo)
set_option maxRecDepth 20000 in
theorem glM_undo_nul : GoodIn lw_tbl (wsV RL 211 RX12 yX12_undo vfX12_undo_nul) := goodIn_app (goodIn_m (mem_c (ws := [.methodLink RL 211 yX12_undo, .instanceMethod yX12_undo, .selects RX12 yX12_undo yX12_undo, .initialized RX12]) [(8, 159), (8, 160), (8, 161), (1, 9)] (by decide +kernel)) (gd_dec (by decide +kernel))) (goodIn_m tffX12_undo_nul qfX12_undo_nul)
set_option maxRecDepth 20000 in
theorem glX_mark : GoodIn lw_tbl (wsV RL 212 RX10 yX10_mark vfX10_mark) := goodIn_app (goodIn_m (mem_c (ws := [.methodLink RL 212 yX10_mark, .instanceMethod yX10_mark, .selects RX10 yX10_mark yX10_mark, .initialized RX10]) [(5, 56), (5, 57), (5, 58), (1, 1)] (by decide +kernel)) (gd_dec (by decide +kernel))) (goodIn_m tffX10_mark qfX10_mark)
set_option maxRecDepth 20000 in
theorem glM_mark : GoodIn lw_tbl (wsV RL 215 RX12 yX12_mark vfX12_mark) := goodIn_app (goodIn_m (mem_c (ws := [.methodLink RL 215 yX12_mark, .instanceMethod yX12_mark, .selects RX12 yX12_mark yX12_mark, .initialized RX12]) [(8, 163), (8, 164), (8, 165), (1, 9)] (by decide +kernel)) (gd_dec (by decide +kernel))) (goodIn_m tffX12_mark qfX12_mark)
set_option maxRecDepth 20000 in
theorem glM_mark_nul : GoodIn lw_tbl (wsV RL 215 RX12 yX12_mark vfX12_mark_nul) := goodIn_app (goodIn_m (mem_c (ws := [.methodLink RL 215 yX12_mark, .instanceMethod yX12_mark, .selects RX12 yX12_mark yX12_mark, .initialized RX12]) [(8, 163), (8, 164), (8, 165), (1, 9)] (by decide +kernel)) (gd_dec (by decide +kernel))) (goodIn_m tffX12_mark_nul qfX12_mark_nul)
set_option maxRecDepth 20000 in
theorem glX_back : GoodIn lw_tbl (wsV RL 216 RX10 yX10_back vfX10_back) := goodIn_app (goodIn_m (mem_c (ws := [.methodLink RL 216 yX10_back, .instanceMethod yX10_back, .selects RX10 yX10_back yX10_back, .initialized RX10]) [(5, 64), (5, 65), (5, 66), (1, 1)] (by decide +kernel)) (gd_dec (by decide +kernel))) (goodIn_m tffX10_back qfX10_back)
set_option maxRecDepth 20000 in
theorem glM_back : GoodIn lw_tbl (wsV RL 219 RX12 yX12_back vfX12_back) := goodIn_app (goodIn_m (mem_c (ws := [.methodLink RL 219 yX12_back, .instanceMethod yX12_back, .selects RX12 yX12_back yX12_back, .initialized RX12]) [(8, 167), (8, 168), (8, 169), (1, 9)] (by decide +kernel)) (gd_dec (by decide +kernel))) (goodIn_m tffX12_back qfX12_back)
set_option maxRecDepth 20000 in
theorem glM_back_nul : GoodIn lw_tbl (wsV RL 219 RX12 yX12_back vfX12_back_nul) := goodIn_app (goodIn_m (mem_c (ws := [.methodLink RL 219 yX12_back, .instanceMethod yX12_back, .selects RX12 yX12_back yX12_back, .initialized RX12]) [(8, 167), (8, 168), (8, 169), (1, 9)] (by decide +kernel)) (gd_dec (by decide +kernel))) (goodIn_m tffX12_back_nul qfX12_back_nul)
set_option maxRecDepth 20000 in
theorem glM_led : GoodIn lw_tbl (wsV RL 225 RX12 yX12_led vfX12_led) := goodIn_app (goodIn_m (mem_c (ws := [.methodLink RL 225 yX12_led, .instanceMethod yX12_led, .selects RX12 yX12_led yX12_led, .initialized RX12]) [(8, 171), (8, 172), (8, 173), (1, 9)] (by decide +kernel)) (gd_dec (by decide +kernel))) (goodIn_m tffX12_led qfX12_led)
set_option maxRecDepth 20000 in
theorem glM_led_nul : GoodIn lw_tbl (wsV RL 225 RX12 yX12_led vfX12_led_nul) := goodIn_app (goodIn_m (mem_c (ws := [.methodLink RL 225 yX12_led, .instanceMethod yX12_led, .selects RX12 yX12_led yX12_led, .initialized RX12]) [(8, 171), (8, 172), (8, 173), (1, 9)] (by decide +kernel)) (gd_dec (by decide +kernel))) (goodIn_m tffX12_led_nul qfX12_led_nul)
set_option maxRecDepth 20000 in
theorem glX_size : GoodIn lw_tbl (wsV RL 226 RX10 yX10_size vfX10_size) := goodIn_app (goodIn_m (mem_c (ws := [.methodLink RL 226 yX10_size, .instanceMethod yX10_size, .selects RX10 yX10_size yX10_size, .initialized RX10]) [(5, 73), (5, 74), (5, 75), (1, 1)] (by decide +kernel)) (gd_dec (by decide +kernel))) (goodIn_m tffX10_size qfX10_size)
set_option maxRecDepth 20000 in
theorem glM_size : GoodIn lw_tbl (wsV RL 229 RX12 yX12_size vfX12_size) := goodIn_app (goodIn_m (mem_c (ws := [.methodLink RL 229 yX12_size, .instanceMethod yX12_size, .selects RX12 yX12_size yX12_size, .initialized RX12]) [(8, 175), (8, 176), (8, 177), (1, 9)] (by decide +kernel)) (gd_dec (by decide +kernel))) (goodIn_m tffX12_size qfX12_size)
set_option maxRecDepth 20000 in
theorem glM_size_nul : GoodIn lw_tbl (wsV RL 229 RX12 yX12_size vfX12_size_nul) := goodIn_app (goodIn_m (mem_c (ws := [.methodLink RL 229 yX12_size, .instanceMethod yX12_size, .selects RX12 yX12_size yX12_size, .initialized RX12]) [(8, 175), (8, 176), (8, 177), (1, 9)] (by decide +kernel)) (gd_dec (by decide +kernel))) (goodIn_m tffX12_size_nul qfX12_size_nul)
set_option maxRecDepth 20000 in
theorem glX_trouble : GoodIn lw_tbl (wsV RL 230 RX10 yX10_trouble vfX10_trouble) := goodIn_app (goodIn_m (mem_c (ws := [.methodLink RL 230 yX10_trouble, .instanceMethod yX10_trouble, .selects RX10 yX10_trouble yX10_trouble, .initialized RX10]) [(5, 77), (5, 78), (5, 79), (1, 1)] (by decide +kernel)) (gd_dec (by decide +kernel))) (goodIn_m tffX10_trouble qfX10_trouble)
set_option maxRecDepth 20000 in
theorem glM_trouble : GoodIn lw_tbl (wsV RL 233 RX12 yX12_trouble vfX12_trouble) := goodIn_app (goodIn_m (mem_c (ws := [.methodLink RL 233 yX12_trouble, .instanceMethod yX12_trouble, .selects RX12 yX12_trouble yX12_trouble, .initialized RX12]) [(8, 179), (8, 180), (8, 181), (1, 9)] (by decide +kernel)) (gd_dec (by decide +kernel))) (goodIn_m tffX12_trouble qfX12_trouble)
/-! what the law's loop keeps (p2): bounds, and one tape -/
def TP (r : TX7_r) (s : TX12_s) : Prop := ∃ (T : Nat → Int32) (f : Nat) (tl : TR7) (ts : TS12), (∀ j, byt (T j)) ∧ f ≤ 900 ∧ r = (T, nI f, tl) ∧ s = (T, nI f, ts)
/-- the plan against the reference's pier; what stands now, what is kept, on both sides -/
def PO (p : TX6_p) (n : TX4_n) (h : TX2_h) (K : Nat → TX4_n) (v : TX12_v) (g : TX12_h) : Option TX11_q → Prop
  | none => PZ p ∧ n.1 = 0 ∧ n.2.1 = 0 ∧ n.2.2.1 = 0 ∧ h.2.1 = 0 ∧ h.2.2 = 0
  | some q => ∃ sp de ba as an bi cf ct t, PQ p q sp de ba as an bi cf ct ∧ t ≤ 999 ∧ NV sp de ba t n v ∧ HV sp de ba h K g
/-- fault and where, the same on both sides -/
def FW (X : XS) (M : MS) : Prop := X.1.2 = M.2.1.2.2.2.2.2.2.2.1 ∧ f_X10_where X.1 X.2.2.2.1 = M.1.2.2
def Rel (X : XS) (M : MS) (o : Option TX11_q) : Prop := IX X ∧ IM M ∧ IO o ∧ PO X.2.1 X.2.2.2.2.1 X.2.2.2.2.2.1 X.2.2.2.2.2.2.1 M.2.2.1 M.2.2.2.2.1 o ∧ FW X M ∧ TP X.2.2.2.1 M.2.1
theorem fst_of {α β : Type} {a a' : α} {b b' : β} (h : some (a, b) = some (a', b')) : a = a' := by
  cases h
  rfl
theorem r32_n {a : Nat} {h : Int} (h1 : (a : Int) ≤ h) (h2 : a < 2 ^ 31) : R32 0 h (nI a) := by
  unfold R32
  rw [nI_toInt h2]
  omega
theorem pr_bounds {p : TX6_p} {q : TX11_q} {n1 : Nat → Int64} {nb : Nat → Int32} {N : Nat} (h : PR p q n1 nb N) (hb : ¬ qBa q = 0) : (R32 0 8 p.1 ∧ R32 0 9 p.2.1 ∧ R32 0 4 p.2.2.2.2.1 ∧ R32 0 5 p.2.2.2.2.2.1 ∧ R32 0 6 p.2.2.2.2.2.2.1 ∧ R32 0 6 p.2.2.2.2.2.2.2.1) ∧ IQ q := by
  obtain ⟨ba, as, an, bi, hc, hh, -⟩ := h
  obtain ⟨c1, c2, c3, c4, c5, c6, c7, c8, c9, c10, c11, c12, c13, c14⟩ := hc
  obtain ⟨a1, a2, a3, a4, a5, a6⟩ := hh
  have hba : ¬ ba = 0 := fun z => hb (by rw [c2, z]; rfl)
  rcases a6 with ⟨-, z, -⟩ | ⟨b1, b2, b3, b4, -⟩
  · omega
  refine ⟨⟨?_, ?_, ?_, ?_, ?_, ?_⟩, ?_, ?_, ?_, ?_, ?_, ?_⟩
  · show R32 0 8 (pSp p)
    rw [a1]
    exact ⟨by omega, by omega⟩
  · show R32 0 9 (pDe p)
    rw [a2]
    exact ⟨by omega, by omega⟩
  · show R32 0 4 (pBa p)
    rw [c1]
    exact r32_n (by omega) (by omega)
  · show R32 0 5 (pAs p)
    rw [c4]
    exact r32_n (by omega) (by omega)
  · show R32 0 6 (pAn p)
    rw [c7]
    exact r32_n (by omega) (by omega)
  · show R32 0 6 (pBi p)
    rw [c10]
    exact r32_n (by omega) (by omega)
  · exact ⟨b1, b2⟩
  · exact ⟨b3, b4⟩
  · show R32 1 4 (qBa q)
    rw [c2]
    unfold R32
    rw [nI_toInt (by omega)]
    omega
  · show R32 0 5 (qAs q)
    rw [c5]
    exact r32_n (by omega) (by omega)
  · show R32 0 6 (qAn q)
    rw [c8]
    exact r32_n (by omega) (by omega)
  · show R32 0 6 (qBi q)
    rw [c11]
    exact r32_n (by omega) (by omega)
theorem pr_an {p : TX6_p} {q : TX11_q} {n1 : Nat → Int64} {nb : Nat → Int32} {N : Nat} (h : PR p q n1 nb N) : pAn p = qAn q := by
  obtain ⟨ba, as, an, bi, hc, -⟩ := h
  obtain ⟨c1, c2, c3, c4, c5, c6, c7, c8, -⟩ := hc
  rw [c7, c8]
theorem r32_0 {h : Int} (hh : 0 ≤ h) : R32 0 h 0 := ⟨by decide, by rw [ltv_0]; exact hh⟩
theorem po_new {p' : TX6_p} {q' : TX11_q} {n1 : Nat → Int64} {nb : Nat → Int32} {N : Nat} (hP : PR p' q' n1 nb N) (hb : ¬ qBa q' = 0) {X : XS} (hX : IX X) {st li lo lb v' : Nat → Int32} (h1 : ∀ j, j < 6 → st j = 0) (h2 : ∀ j, j < 5 → li j = -1) (h3 : vrow v') {K : Nat → TX4_n} {P Q : Nat → Int32} : PO p' (0, 0, 0, st, lo, lb, li) (X.2.2.2.2.2.1.1, 0, 0) K v' (P, Q, 0, 0) (some q') := by
  obtain ⟨sp, de, ba, as, an, bi, cf, ct, hq⟩ := pq_of hP hb
  obtain ⟨b1, b2⟩ := hX.2.2.2.2.2.2.1
  obtain ⟨o, h, e⟩ := inn_of b1
  rw [e, nI_toInt h] at b2
  rw [e]
  exact ⟨sp, de, ba, as, an, bi, cf, ct, 0, hq, by omega, nv_new h1 h2 h3, hv_0 (by omega) K P Q⟩
theorem st_fault {X : XS} {M : MS} {o : Option TX11_q} (hR : Rel X M o) : ∃ rx X' rm M' o', gX_fault X = some (rx, X') ∧ gM_fault M o = some (rm, M', o') ∧ Rel X' M' o' ∧ rx = rm := by
  obtain ⟨hX, hM, ho, hp, hw, hT⟩ := hR
  obtain ⟨rx, X', ex, hX', e1, e0, e3, en, eh, eK⟩ := sx_fault  hX
  obtain ⟨rm, M', em, hM', e2, e5, ev, eg⟩ := sm_fault  hM ho
  exact ⟨rx, X', rm, M', o, ex, em, ⟨hX', hM', ho, by rw [e0, en, eh, eK, ev, eg]; exact hp, ⟨by rw [e3, e2]; exact hw.1, by rw [e3, e1, e5]; exact hw.2⟩, by rw [e1, e2]; exact hT⟩, by
    obtain ⟨y1, h1⟩ : ∃ y, gX_fault X = some (X.1.2, y) := ⟨_, rfl⟩
    obtain ⟨y2, h2⟩ : ∃ y, gM_fault M o = some (M.2.1.2.2.2.2.2.2.2.1, y) := ⟨_, rfl⟩
    exact (fst_of (ex.symm.trans h1)).trans (hw.1.trans (fst_of (em.symm.trans h2)).symm)⟩
theorem st_where {X : XS} {M : MS} {o : Option TX11_q} (hR : Rel X M o) : ∃ rx X' rm M' o', gX_where X = some (rx, X') ∧ gM_where M o = some (rm, M', o') ∧ Rel X' M' o' ∧ rx = rm := by
  obtain ⟨hX, hM, ho, hp, hw, hT⟩ := hR
  obtain ⟨rx, X', ex, hX', e1, e0, e3, en, eh, eK⟩ := sx_where  hX
  obtain ⟨rm, M', em, hM', e2, e5, ev, eg⟩ := sm_where  hM ho
  exact ⟨rx, X', rm, M', o, ex, em, ⟨hX', hM', ho, by rw [e0, en, eh, eK, ev, eg]; exact hp, ⟨by rw [e3, e2]; exact hw.1, by rw [e3, e1, e5]; exact hw.2⟩, by rw [e1, e2]; exact hT⟩, by
    obtain ⟨y1, h1⟩ : ∃ y, gX_where X = some (f_X10_where X.1 X.2.2.2.1, y) := ⟨_, rfl⟩
    obtain ⟨y2, h2⟩ : ∃ y, gM_where M o = some (M.1.2.2, y) := ⟨_, rfl⟩
    exact (fst_of (ex.symm.trans h1)).trans (hw.2.trans (fst_of (em.symm.trans h2)).symm)⟩
theorem st_answer {k1 : Int32} {k2 : Int32} {X : XS} {M : MS} {o : Option TX11_q} (hR : Rel X M o) : ∃ rx X' rm M' o', gX_answer k1 k2 X = some (rx, X') ∧ gM_answer k1 k2 M o = some (rm, M', o') ∧ Rel X' M' o' ∧ True := by
  obtain ⟨hX, hM, ho, hp, hw, hT⟩ := hR
  obtain ⟨rx, X', ex, hX', e1, e0, e3, e4, en, eh, eK⟩ := sx_answer (k1 := k1) (k2 := k2) hX
  obtain ⟨rm, M', em, hM', e2, e5, ev, eg⟩ := sm_answer (k1 := k1) (k2 := k2) hM ho
  exact ⟨rx, X', rm, M', o, ex, em, ⟨hX', hM', ho, by rw [e0, en, eh, eK, ev, eg]; exact hp, ⟨by rw [e3, e2]; exact hw.1, by rw [f_X10_where, if_neg e4, e5]⟩, by rw [e1, e2]; exact hT⟩, trivial⟩
theorem st_asker {k1 : Int32} {k2 : Int32} {X : XS} {M : MS} {o : Option TX11_q} (hR : Rel X M o) : ∃ rx X' rm M' o', gX_asker k1 k2 X = some (rx, X') ∧ gM_asker k1 k2 M o = some (rm, M', o') ∧ Rel X' M' o' ∧ True := by
  obtain ⟨hX, hM, ho, hp, hw, hT⟩ := hR
  obtain ⟨rx, X', ex, hX', e1, e0, e3, e4, en, eh, eK⟩ := sx_asker (k1 := k1) (k2 := k2) hX
  obtain ⟨rm, M', em, hM', e2, e5, ev, eg⟩ := sm_asker (k1 := k1) (k2 := k2) hM ho
  exact ⟨rx, X', rm, M', o, ex, em, ⟨hX', hM', ho, by rw [e0, en, eh, eK, ev, eg]; exact hp, ⟨by rw [e3, e2]; exact hw.1, by rw [f_X10_where, if_neg e4, e5]⟩, by rw [e1, e2]; exact hT⟩, trivial⟩
theorem st_close {k1 : Int32} {X : XS} {M : MS} {o : Option TX11_q} (hR : Rel X M o) : ∃ rx X' rm M' o', gX_close k1 X = some (rx, X') ∧ gM_close k1 M o = some (rm, M', o') ∧ Rel X' M' o' ∧ True := by
  obtain ⟨hX, hM, ho, hp, hw, hT⟩ := hR
  obtain ⟨rx, X', ex, hX', e1, e0, e3, e4, en, eh, eK⟩ := sx_close (k1 := k1) hX
  obtain ⟨rm, M', em, hM', e2, e5, ev, eg⟩ := sm_close (k1 := k1) hM ho
  exact ⟨rx, X', rm, M', o, ex, em, ⟨hX', hM', ho, by rw [e0, en, eh, eK, ev, eg]; exact hp, ⟨by rw [e3, e2]; exact hw.1, by rw [f_X10_where, if_neg e4, e5]⟩, by rw [e1, e2]; exact hT⟩, trivial⟩
theorem st_wish {k1 : Int32} {k2 : Int32} {k3 : Int32} {k4 : Int32} {X : XS} {M : MS} {o : Option TX11_q} (hR : Rel X M o) : ∃ rx X' rm M' o', gX_wish k1 k2 k3 k4 X = some (rx, X') ∧ gM_wish k1 k2 k3 k4 M o = some (rm, M', o') ∧ Rel X' M' o' ∧ True := by
  obtain ⟨hX, hM, ho, hp, hw, hT⟩ := hR
  obtain ⟨rx, X', ex, hX', e1, e0, e3, e4, en, eh, eK⟩ := sx_wish (k1 := k1) (k2 := k2) (k3 := k3) (k4 := k4) hX
  obtain ⟨rm, M', em, hM', e2, e5, ev, eg⟩ := sm_wish (k1 := k1) (k2 := k2) (k3 := k3) (k4 := k4) hM ho
  exact ⟨rx, X', rm, M', o, ex, em, ⟨hX', hM', ho, by rw [e0, en, eh, eK, ev, eg]; exact hp, ⟨by rw [e3, e2]; exact hw.1, by rw [f_X10_where, if_neg e4, e5]⟩, by rw [e1, e2]; exact hT⟩, trivial⟩
theorem st_takes {k1 : Int32} {k2 : Int32} {k3 : Int32} {k4 : Int32} {k5 : Int32} {X : XS} {M : MS} {o : Option TX11_q} (hR : Rel X M o) : ∃ rx X' rm M' o', gX_takes k1 k2 k3 k4 k5 X = some (rx, X') ∧ gM_takes k1 k2 k3 k4 k5 M o = some (rm, M', o') ∧ Rel X' M' o' ∧ True := by
  obtain ⟨hX, hM, ho, hp, hw, hT⟩ := hR
  obtain ⟨rx, X', ex, hX', e1, e0, e3, e4, en, eh, eK⟩ := sx_takes (k1 := k1) (k2 := k2) (k3 := k3) (k4 := k4) (k5 := k5) hX
  obtain ⟨rm, M', em, hM', e2, e5, ev, eg⟩ := sm_takes (k1 := k1) (k2 := k2) (k3 := k3) (k4 := k4) (k5 := k5) hM ho
  exact ⟨rx, X', rm, M', o, ex, em, ⟨hX', hM', ho, by rw [e0, en, eh, eK, ev, eg]; exact hp, ⟨by rw [e3, e2]; exact hw.1, by rw [f_X10_where, if_neg e4, e5]⟩, by rw [e1, e2]; exact hT⟩, trivial⟩
theorem st_nothing {k1 : Int32} {k2 : Int32} {k3 : Int32} {k4 : Int32} {X : XS} {M : MS} {o : Option TX11_q} (hR : Rel X M o) : ∃ rx X' rm M' o', gX_nothing k1 k2 k3 k4 X = some (rx, X') ∧ gM_nothing k1 k2 k3 k4 M o = some (rm, M', o') ∧ Rel X' M' o' ∧ True := by
  obtain ⟨hX, hM, ho, hp, hw, hT⟩ := hR
  obtain ⟨rx, X', ex, hX', e1, e0, e3, e4, en, eh, eK⟩ := sx_nothing (k1 := k1) (k2 := k2) (k3 := k3) (k4 := k4) hX
  obtain ⟨rm, M', em, hM', e2, e5, ev, eg⟩ := sm_nothing (k1 := k1) (k2 := k2) (k3 := k3) (k4 := k4) hM ho
  exact ⟨rx, X', rm, M', o, ex, em, ⟨hX', hM', ho, by rw [e0, en, eh, eK, ev, eg]; exact hp, ⟨by rw [e3, e2]; exact hw.1, by rw [f_X10_where, if_neg e4, e5]⟩, by rw [e1, e2]; exact hT⟩, trivial⟩
theorem st_mean {k1 : Int32} {k2 : Int32} {k3 : Int32} {k4 : Int32} {X : XS} {M : MS} {o : Option TX11_q} (hR : Rel X M o) : ∃ rx X' rm M' o', gX_mean k1 k2 k3 k4 X = some (rx, X') ∧ gM_mean k1 k2 k3 k4 M o = some (rm, M', o') ∧ Rel X' M' o' ∧ True := by
  obtain ⟨hX, hM, ho, hp, hw, hT⟩ := hR
  obtain ⟨rx, X', ex, hX', e1, e0, e3, e4, en, eh, eK⟩ := sx_mean (k1 := k1) (k2 := k2) (k3 := k3) (k4 := k4) hX
  obtain ⟨rm, M', em, hM', e2, e5, ev, eg⟩ := sm_mean (k1 := k1) (k2 := k2) (k3 := k3) (k4 := k4) hM ho
  exact ⟨rx, X', rm, M', o, ex, em, ⟨hX', hM', ho, by rw [e0, en, eh, eK, ev, eg]; exact hp, ⟨by rw [e3, e2]; exact hw.1, by rw [f_X10_where, if_neg e4, e5]⟩, by rw [e1, e2]; exact hT⟩, trivial⟩
theorem st_likeliest {k1 : Int32} {k2 : Int32} {k3 : Int32} {X : XS} {M : MS} {o : Option TX11_q} (hR : Rel X M o) : ∃ rx X' rm M' o', gX_likeliest k1 k2 k3 X = some (rx, X') ∧ gM_likeliest k1 k2 k3 M o = some (rm, M', o') ∧ Rel X' M' o' ∧ True := by
  obtain ⟨hX, hM, ho, hp, hw, hT⟩ := hR
  obtain ⟨rx, X', ex, hX', e1, e0, e3, e4, en, eh, eK⟩ := sx_likeliest (k1 := k1) (k2 := k2) (k3 := k3) hX
  obtain ⟨rm, M', em, hM', e2, e5, ev, eg⟩ := sm_likeliest (k1 := k1) (k2 := k2) (k3 := k3) hM ho
  exact ⟨rx, X', rm, M', o, ex, em, ⟨hX', hM', ho, by rw [e0, en, eh, eK, ev, eg]; exact hp, ⟨by rw [e3, e2]; exact hw.1, by rw [f_X10_where, if_neg e4, e5]⟩, by rw [e1, e2]; exact hT⟩, trivial⟩
theorem st_surest {k1 : Int32} {X : XS} {M : MS} {o : Option TX11_q} (hR : Rel X M o) : ∃ rx X' rm M' o', gX_surest k1 X = some (rx, X') ∧ gM_surest k1 M o = some (rm, M', o') ∧ Rel X' M' o' ∧ True := by
  obtain ⟨hX, hM, ho, hp, hw, hT⟩ := hR
  obtain ⟨rx, X', ex, hX', e1, e0, e3, e4, en, eh, eK⟩ := sx_surest (k1 := k1) hX
  obtain ⟨rm, M', em, hM', e2, e5, ev, eg⟩ := sm_surest (k1 := k1) hM ho
  exact ⟨rx, X', rm, M', o, ex, em, ⟨hX', hM', ho, by rw [e0, en, eh, eK, ev, eg]; exact hp, ⟨by rw [e3, e2]; exact hw.1, by rw [f_X10_where, if_neg e4, e5]⟩, by rw [e1, e2]; exact hT⟩, trivial⟩
theorem st_surestOdds {k1 : Int32} {k2 : Int32} {X : XS} {M : MS} {o : Option TX11_q} (hR : Rel X M o) : ∃ rx X' rm M' o', gX_surestOdds k1 k2 X = some (rx, X') ∧ gM_surestOdds k1 k2 M o = some (rm, M', o') ∧ Rel X' M' o' ∧ True := by
  obtain ⟨hX, hM, ho, hp, hw, hT⟩ := hR
  obtain ⟨rx, X', ex, hX', e1, e0, e3, e4, en, eh, eK⟩ := sx_surestOdds (k1 := k1) (k2 := k2) hX
  obtain ⟨rm, M', em, hM', e2, e5, ev, eg⟩ := sm_surestOdds (k1 := k1) (k2 := k2) hM ho
  exact ⟨rx, X', rm, M', o, ex, em, ⟨hX', hM', ho, by rw [e0, en, eh, eK, ev, eg]; exact hp, ⟨by rw [e3, e2]; exact hw.1, by rw [f_X10_where, if_neg e4, e5]⟩, by rw [e1, e2]; exact hT⟩, trivial⟩
theorem st_best {X : XS} {M : MS} {o : Option TX11_q} (hR : Rel X M o) : ∃ rx X' rm M' o', gX_best X = some (rx, X') ∧ gM_best M o = some (rm, M', o') ∧ Rel X' M' o' ∧ True := by
  obtain ⟨hX, hM, ho, hp, hw, hT⟩ := hR
  obtain ⟨rx, X', ex, hX', e1, e0, e3, e4, en, eh, eK⟩ := sx_best  hX
  obtain ⟨rm, M', em, hM', e2, e5, ev, eg⟩ := sm_best  hM ho
  exact ⟨rx, X', rm, M', o, ex, em, ⟨hX', hM', ho, by rw [e0, en, eh, eK, ev, eg]; exact hp, ⟨by rw [e3, e2]; exact hw.1, by rw [f_X10_where, if_neg e4, e5]⟩, by rw [e1, e2]; exact hT⟩, trivial⟩
theorem st_bestBait {X : XS} {M : MS} {o : Option TX11_q} (hR : Rel X M o) : ∃ rx X' rm M' o', gX_bestBait X = some (rx, X') ∧ gM_bestBait M o = some (rm, M', o') ∧ Rel X' M' o' ∧ True := by
  obtain ⟨hX, hM, ho, hp, hw, hT⟩ := hR
  obtain ⟨rx, X', ex, hX', e1, e0, e3, e4, en, eh, eK⟩ := sx_bestBait  hX
  obtain ⟨rm, M', em, hM', e2, e5, ev, eg⟩ := sm_bestBait  hM ho
  exact ⟨rx, X', rm, M', o, ex, em, ⟨hX', hM', ho, by rw [e0, en, eh, eK, ev, eg]; exact hp, ⟨by rw [e3, e2]; exact hw.1, by rw [f_X10_where, if_neg e4, e5]⟩, by rw [e1, e2]; exact hT⟩, trivial⟩
theorem st_hungerFor {k1 : Int32} {k2 : Int32} {k3 : Int32} {k4 : Int32} {X : XS} {M : MS} {o : Option TX11_q} (hR : Rel X M o) : ∃ rx X' rm M' o', gX_hungerFor k1 k2 k3 k4 X = some (rx, X') ∧ gM_hungerFor k1 k2 k3 k4 M o = some (rm, M', o') ∧ Rel X' M' o' ∧ True := by
  obtain ⟨hX, hM, ho, hp, hw, hT⟩ := hR
  obtain ⟨rx, X', ex, hX', e1, e0, e3, e4, en, eh, eK⟩ := sx_hungerFor (k1 := k1) (k2 := k2) (k3 := k3) (k4 := k4) hX
  obtain ⟨rm, M', em, hM', e2, e5, ev, eg⟩ := sm_hungerFor (k1 := k1) (k2 := k2) (k3 := k3) (k4 := k4) hM ho
  exact ⟨rx, X', rm, M', o, ex, em, ⟨hX', hM', ho, by rw [e0, en, eh, eK, ev, eg]; exact hp, ⟨by rw [e3, e2]; exact hw.1, by rw [f_X10_where, if_neg e4, e5]⟩, by rw [e1, e2]; exact hT⟩, trivial⟩
theorem st_freeSpots {k1 : Int32} {X : XS} {M : MS} {o : Option TX11_q} (hR : Rel X M o) : ∃ rx X' rm M' o', gX_freeSpots k1 X = some (rx, X') ∧ gM_freeSpots k1 M o = some (rm, M', o') ∧ Rel X' M' o' ∧ True := by
  obtain ⟨hX, hM, ho, hp, hw, hT⟩ := hR
  obtain ⟨rx, X', ex, hX', e1, e0, e3, e4, en, eh, eK⟩ := sx_freeSpots (k1 := k1) hX
  obtain ⟨rm, M', em, hM', e2, e5, ev, eg⟩ := sm_freeSpots (k1 := k1) hM ho
  exact ⟨rx, X', rm, M', o, ex, em, ⟨hX', hM', ho, by rw [e0, en, eh, eK, ev, eg]; exact hp, ⟨by rw [e3, e2]; exact hw.1, by rw [f_X10_where, if_neg e4, e5]⟩, by rw [e1, e2]; exact hT⟩, trivial⟩
theorem st_tangles {k1 : Int32} {k2 : Int32} {k3 : Int32} {k4 : Int32} {X : XS} {M : MS} {o : Option TX11_q} (hR : Rel X M o) : ∃ rx X' rm M' o', gX_tangles k1 k2 k3 k4 X = some (rx, X') ∧ gM_tangles k1 k2 k3 k4 M o = some (rm, M', o') ∧ Rel X' M' o' ∧ True := by
  obtain ⟨hX, hM, ho, hp, hw, hT⟩ := hR
  obtain ⟨rx, X', ex, hX', e1, e0, e3, e4, en, eh, eK⟩ := sx_tangles (k1 := k1) (k2 := k2) (k3 := k3) (k4 := k4) hX
  obtain ⟨rm, M', em, hM', e2, e5, ev, eg⟩ := sm_tangles (k1 := k1) (k2 := k2) (k3 := k3) (k4 := k4) hM ho
  exact ⟨rx, X', rm, M', o, ex, em, ⟨hX', hM', ho, by rw [e0, en, eh, eK, ev, eg]; exact hp, ⟨by rw [e3, e2]; exact hw.1, by rw [f_X10_where, if_neg e4, e5]⟩, by rw [e1, e2]; exact hT⟩, trivial⟩
theorem st_seatings {X : XS} {M : MS} {o : Option TX11_q} (hR : Rel X M o) : ∃ rx X' rm M' o', gX_seatings X = some (rx, X') ∧ gM_seatings M o = some (rm, M', o') ∧ Rel X' M' o' ∧ True := by
  obtain ⟨hX, hM, ho, hp, hw, hT⟩ := hR
  obtain ⟨rx, X', ex, hX', e1, e0, e3, e4, en, eh, eK⟩ := sx_seatings  hX
  obtain ⟨rm, M', em, hM', e2, e5, ev, eg⟩ := sm_seatings  hM ho
  exact ⟨rx, X', rm, M', o, ex, em, ⟨hX', hM', ho, by rw [e0, en, eh, eK, ev, eg]; exact hp, ⟨by rw [e3, e2]; exact hw.1, by rw [f_X10_where, if_neg e4, e5]⟩, by rw [e1, e2]; exact hT⟩, trivial⟩
theorem st_seat {k1 : Int32} {X : XS} {M : MS} {o : Option TX11_q} (hR : Rel X M o) : ∃ rx X' rm M' o', gX_seat k1 X = some (rx, X') ∧ gM_seat k1 M o = some (rm, M', o') ∧ Rel X' M' o' ∧ True := by
  obtain ⟨hX, hM, ho, hp, hw, hT⟩ := hR
  obtain ⟨rx, X', ex, hX', e1, e0, e3, e4, en, eh, eK⟩ := sx_seat (k1 := k1) hX
  obtain ⟨rm, M', em, hM', e2, e5, ev, eg⟩ := sm_seat (k1 := k1) hM ho
  exact ⟨rx, X', rm, M', o, ex, em, ⟨hX', hM', ho, by rw [e0, en, eh, eK, ev, eg]; exact hp, ⟨by rw [e3, e2]; exact hw.1, by rw [f_X10_where, if_neg e4, e5]⟩, by rw [e1, e2]; exact hT⟩, trivial⟩
theorem st_mostSeated {X : XS} {M : MS} {o : Option TX11_q} (hR : Rel X M o) : ∃ rx X' rm M' o', gX_mostSeated X = some (rx, X') ∧ gM_mostSeated M o = some (rm, M', o') ∧ Rel X' M' o' ∧ True := by
  obtain ⟨hX, hM, ho, hp, hw, hT⟩ := hR
  obtain ⟨rx, X', ex, hX', e1, e0, e3, e4, en, eh, eK⟩ := sx_mostSeated  hX
  obtain ⟨rm, M', em, hM', e2, e5, ev, eg⟩ := sm_mostSeated  hM ho
  exact ⟨rx, X', rm, M', o, ex, em, ⟨hX', hM', ho, by rw [e0, en, eh, eK, ev, eg]; exact hp, ⟨by rw [e3, e2]; exact hw.1, by rw [f_X10_where, if_neg e4, e5]⟩, by rw [e1, e2]; exact hT⟩, trivial⟩
theorem st_darks {X : XS} {M : MS} {o : Option TX11_q} (hR : Rel X M o) : ∃ rx X' rm M' o', gX_darks X = some (rx, X') ∧ gM_darks M o = some (rm, M', o') ∧ Rel X' M' o' ∧ True := by
  obtain ⟨hX, hM, ho, hp, hw, hT⟩ := hR
  obtain ⟨rx, X', ex, hX', e1, e0, e3, e4, en, eh, eK⟩ := sx_darks  hX
  obtain ⟨rm, M', em, hM', e2, e5, ev, eg⟩ := sm_darks  hM ho
  exact ⟨rx, X', rm, M', o, ex, em, ⟨hX', hM', ho, by rw [e0, en, eh, eK, ev, eg]; exact hp, ⟨by rw [e3, e2]; exact hw.1, by rw [f_X10_where, if_neg e4, e5]⟩, by rw [e1, e2]; exact hT⟩, trivial⟩
theorem st_darkAt {k1 : Int32} {X : XS} {M : MS} {o : Option TX11_q} (hR : Rel X M o) : ∃ rx X' rm M' o', gX_darkAt k1 X = some (rx, X') ∧ gM_darkAt k1 M o = some (rm, M', o') ∧ Rel X' M' o' ∧ rx = rm := by
  obtain ⟨hX, hM, ho, hp, hw, hT⟩ := hR
  obtain ⟨rx, X', ex, hX', e1, e0, e3, e4, en, eh, eK⟩ := sx_darkAt (k1 := k1) hX
  obtain ⟨rm, M', em, hM', e2, e5, ev, eg⟩ := sm_darkAt (k1 := k1) hM ho
  exact ⟨rx, X', rm, M', o, ex, em, ⟨hX', hM', ho, by rw [e0, en, eh, eK, ev, eg]; exact hp, ⟨by rw [e3, e2]; exact hw.1, by rw [f_X10_where, if_neg e4, e5]⟩, by rw [e1, e2]; exact hT⟩, by
    cases o with
    | none =>
      have g1 := zn_darkAt hp.1 k1 X.1 X.2.2.2.2.2.2.2.2.1
      obtain ⟨y1, h1⟩ : ∃ y, gX_darkAt k1 X = some (-1, y) := ⟨_, by
        rw [gX_darkAt, g1]
        rfl⟩
      obtain ⟨y2, h2⟩ : ∃ y, gM_darkAt k1 M none = some (-1, y) := ⟨_, rfl⟩
      exact (fst_of (ex.symm.trans h1)).trans (fst_of (em.symm.trans h2)).symm
    | some q =>
      obtain ⟨sp, de, ba, as, an, bi, cf, ct, t, hq, ht, hn, hh⟩ := hp
      obtain ⟨r, y3, y4, g1, g2, -⟩ := eq_darkAt hq hn ht k1 X.1 X.2.2.2.2.2.2.2.2.1 M.1
      obtain ⟨y1, h1⟩ : ∃ y, gX_darkAt k1 X = some (r, y) := ⟨_, by
        rw [gX_darkAt, g1]
        rfl⟩
      obtain ⟨y2, h2⟩ : ∃ y, gM_darkAt k1 M (some q) = some (r, y) := ⟨_, by
        rw [gM_darkAt, g2]
        rfl⟩
      exact (fst_of (ex.symm.trans h1)).trans (fst_of (em.symm.trans h2)).symm⟩
theorem st_darkSpots {X : XS} {M : MS} {o : Option TX11_q} (hR : Rel X M o) : ∃ rx X' rm M' o', gX_darkSpots X = some (rx, X') ∧ gM_darkSpots M o = some (rm, M', o') ∧ Rel X' M' o' ∧ True := by
  obtain ⟨hX, hM, ho, hp, hw, hT⟩ := hR
  obtain ⟨rx, X', ex, hX', e1, e0, e3, e4, en, eh, eK⟩ := sx_darkSpots  hX
  obtain ⟨rm, M', em, hM', e2, e5, ev, eg⟩ := sm_darkSpots  hM ho
  exact ⟨rx, X', rm, M', o, ex, em, ⟨hX', hM', ho, by rw [e0, en, eh, eK, ev, eg]; exact hp, ⟨by rw [e3, e2]; exact hw.1, by rw [f_X10_where, if_neg e4, e5]⟩, by rw [e1, e2]; exact hT⟩, trivial⟩
theorem st_ask {X : XS} {M : MS} {o : Option TX11_q} (hR : Rel X M o) : ∃ rx X' rm M' o', gX_ask X = some (rx, X') ∧ gM_ask M o = some (rm, M', o') ∧ Rel X' M' o' ∧ True := by
  obtain ⟨hX, hM, ho, hp, hw, hT⟩ := hR
  obtain ⟨rx, X', ex, hX', e1, e0, e3, e4, en, eh, eK⟩ := sx_ask  hX
  obtain ⟨rm, M', em, hM', e2, e5, ev, eg⟩ := sm_ask  hM ho
  exact ⟨rx, X', rm, M', o, ex, em, ⟨hX', hM', ho, by rw [e0, en, eh, eK, ev, eg]; exact hp, ⟨by rw [e3, e2]; exact hw.1, by rw [f_X10_where, if_neg e4, e5]⟩, by rw [e1, e2]; exact hT⟩, trivial⟩
theorem st_askLeaves {X : XS} {M : MS} {o : Option TX11_q} (hR : Rel X M o) : ∃ rx X' rm M' o', gX_askLeaves X = some (rx, X') ∧ gM_askLeaves M o = some (rm, M', o') ∧ Rel X' M' o' ∧ True := by
  obtain ⟨hX, hM, ho, hp, hw, hT⟩ := hR
  obtain ⟨rx, X', ex, hX', e1, e0, e3, e4, en, eh, eK⟩ := sx_askLeaves  hX
  obtain ⟨rm, M', em, hM', e2, e5, ev, eg⟩ := sm_askLeaves  hM ho
  exact ⟨rx, X', rm, M', o, ex, em, ⟨hX', hM', ho, by rw [e0, en, eh, eK, ev, eg]; exact hp, ⟨by rw [e3, e2]; exact hw.1, by rw [f_X10_where, if_neg e4, e5]⟩, by rw [e1, e2]; exact hT⟩, trivial⟩
theorem st_judge {k1 : Int32} {X : XS} {M : MS} {o : Option TX11_q} (hR : Rel X M o) : ∃ rx X' rm M' o', gX_judge k1 X = some (rx, X') ∧ gM_judge k1 M o = some (rm, M', o') ∧ Rel X' M' o' ∧ True := by
  obtain ⟨hX, hM, ho, hp, hw, hT⟩ := hR
  obtain ⟨rx, X', ex, hX', e1, e0, e3, e4, en, eh, eK⟩ := sx_judge (k1 := k1) hX
  obtain ⟨rm, M', em, hM', e2, e5, ev, eg⟩ := sm_judge (k1 := k1) hM ho
  exact ⟨rx, X', rm, M', o, ex, em, ⟨hX', hM', ho, by rw [e0, en, eh, eK, ev, eg]; exact hp, ⟨by rw [e3, e2]; exact hw.1, by rw [f_X10_where, if_neg e4, e5]⟩, by rw [e1, e2]; exact hT⟩, trivial⟩
theorem st_worth {k1 : Int32} {k2 : Int32} {k3 : Int32} {X : XS} {M : MS} {o : Option TX11_q} (hR : Rel X M o) : ∃ rx X' rm M' o', gX_worth k1 k2 k3 X = some (rx, X') ∧ gM_worth k1 k2 k3 M o = some (rm, M', o') ∧ Rel X' M' o' ∧ True := by
  obtain ⟨hX, hM, ho, hp, hw, hT⟩ := hR
  obtain ⟨rx, X', ex, hX', e1, e0, e3, e4, en, eh, eK⟩ := sx_worth (k1 := k1) (k2 := k2) (k3 := k3) hX
  obtain ⟨rm, M', em, hM', e2, e5, ev, eg⟩ := sm_worth (k1 := k1) (k2 := k2) (k3 := k3) hM ho
  exact ⟨rx, X', rm, M', o, ex, em, ⟨hX', hM', ho, by rw [e0, en, eh, eK, ev, eg]; exact hp, ⟨by rw [e3, e2]; exact hw.1, by rw [f_X10_where, if_neg e4, e5]⟩, by rw [e1, e2]; exact hT⟩, trivial⟩
theorem st_load {k1 : Int32} {X : XS} {M : MS} {o : Option TX11_q} (hR : Rel X M o) : ∃ rx X' rm M' o', gX_load k1 X = some (rx, X') ∧ gM_load k1 M o = some (rm, M', o') ∧ Rel X' M' o' ∧ True := by
  obtain ⟨hX, hM, ho, hp, hw, hT⟩ := hR
  obtain ⟨rx, X', ex, hX', e1, e0, e3, e4, en, eh, eK⟩ := sx_load (k1 := k1) hX
  obtain ⟨rm, M', em, hM', e2, e5, ev, eg⟩ := sm_load (k1 := k1) hM ho
  exact ⟨rx, X', rm, M', o, ex, em, ⟨hX', hM', ho, by rw [e0, en, eh, eK, ev, eg]; exact hp, ⟨by rw [e3, e2]; exact hw.1, by rw [f_X10_where, if_neg e4, e5]⟩, by rw [e1, e2]; exact hT⟩, trivial⟩
theorem st_loadWorth {k1 : Int32} {X : XS} {M : MS} {o : Option TX11_q} (hR : Rel X M o) : ∃ rx X' rm M' o', gX_loadWorth k1 X = some (rx, X') ∧ gM_loadWorth k1 M o = some (rm, M', o') ∧ Rel X' M' o' ∧ True := by
  obtain ⟨hX, hM, ho, hp, hw, hT⟩ := hR
  obtain ⟨rx, X', ex, hX', e1, e0, e3, e4, en, eh, eK⟩ := sx_loadWorth (k1 := k1) hX
  obtain ⟨rm, M', em, hM', e2, e5, ev, eg⟩ := sm_loadWorth (k1 := k1) hM ho
  exact ⟨rx, X', rm, M', o, ex, em, ⟨hX', hM', ho, by rw [e0, en, eh, eK, ev, eg]; exact hp, ⟨by rw [e3, e2]; exact hw.1, by rw [f_X10_where, if_neg e4, e5]⟩, by rw [e1, e2]; exact hT⟩, trivial⟩
theorem st_bestDay {X : XS} {M : MS} {o : Option TX11_q} (hR : Rel X M o) : ∃ rx X' rm M' o', gX_bestDay X = some (rx, X') ∧ gM_bestDay M o = some (rm, M', o') ∧ Rel X' M' o' ∧ True := by
  obtain ⟨hX, hM, ho, hp, hw, hT⟩ := hR
  obtain ⟨rx, X', ex, hX', e1, e0, e3, e4, en, eh, eK⟩ := sx_bestDay  hX
  obtain ⟨rm, M', em, hM', e2, e5, ev, eg⟩ := sm_bestDay  hM ho
  exact ⟨rx, X', rm, M', o, ex, em, ⟨hX', hM', ho, by rw [e0, en, eh, eK, ev, eg]; exact hp, ⟨by rw [e3, e2]; exact hw.1, by rw [f_X10_where, if_neg e4, e5]⟩, by rw [e1, e2]; exact hT⟩, trivial⟩
theorem st_hooks {k1 : Int32} {k2 : Int32} {k3 : Int32} {k4 : Int32} {k5 : Int32} {X : XS} {M : MS} {o : Option TX11_q} (hR : Rel X M o) : ∃ rx X' rm M' o', gX_hooks k1 k2 k3 k4 k5 X = some (rx, X') ∧ gM_hooks k1 k2 k3 k4 k5 M o = some (rm, M', o') ∧ Rel X' M' o' ∧ True := by
  obtain ⟨hX, hM, ho, hp, hw, hT⟩ := hR
  obtain ⟨rx, X', ex, hX', e1, e0, e3, e4, en, eh, eK⟩ := sx_hooks (k1 := k1) (k2 := k2) (k3 := k3) (k4 := k4) (k5 := k5) hX
  obtain ⟨rm, M', em, hM', e2, e5, ev, eg⟩ := sm_hooks (k1 := k1) (k2 := k2) (k3 := k3) (k4 := k4) (k5 := k5) hM ho
  exact ⟨rx, X', rm, M', o, ex, em, ⟨hX', hM', ho, by rw [e0, en, eh, eK, ev, eg]; exact hp, ⟨by rw [e3, e2]; exact hw.1, by rw [f_X10_where, if_neg e4, e5]⟩, by rw [e1, e2]; exact hT⟩, trivial⟩
theorem st_lines {k1 : Int32} {k2 : Int32} {k3 : Int32} {k4 : Int32} {X : XS} {M : MS} {o : Option TX11_q} (hR : Rel X M o) : ∃ rx X' rm M' o', gX_lines k1 k2 k3 k4 X = some (rx, X') ∧ gM_lines k1 k2 k3 k4 M o = some (rm, M', o') ∧ Rel X' M' o' ∧ True := by
  obtain ⟨hX, hM, ho, hp, hw, hT⟩ := hR
  obtain ⟨rx, X', ex, hX', e1, e0, e3, e4, en, eh, eK⟩ := sx_lines (k1 := k1) (k2 := k2) (k3 := k3) (k4 := k4) hX
  obtain ⟨rm, M', em, hM', e2, e5, ev, eg⟩ := sm_lines (k1 := k1) (k2 := k2) (k3 := k3) (k4 := k4) hM ho
  exact ⟨rx, X', rm, M', o, ex, em, ⟨hX', hM', ho, by rw [e0, en, eh, eK, ev, eg]; exact hp, ⟨by rw [e3, e2]; exact hw.1, by rw [f_X10_where, if_neg e4, e5]⟩, by rw [e1, e2]; exact hT⟩, trivial⟩
theorem st_rests {k1 : Int32} {X : XS} {M : MS} {o : Option TX11_q} (hR : Rel X M o) : ∃ rx X' rm M' o', gX_rests k1 X = some (rx, X') ∧ gM_rests k1 M o = some (rm, M', o') ∧ Rel X' M' o' ∧ True := by
  obtain ⟨hX, hM, ho, hp, hw, hT⟩ := hR
  obtain ⟨rx, X', ex, hX', e1, e0, e3, e4, en, eh, eK⟩ := sx_rests (k1 := k1) hX
  obtain ⟨rm, M', em, hM', e2, e5, ev, eg⟩ := sm_rests (k1 := k1) hM ho
  exact ⟨rx, X', rm, M', o, ex, em, ⟨hX', hM', ho, by rw [e0, en, eh, eK, ev, eg]; exact hp, ⟨by rw [e3, e2]; exact hw.1, by rw [f_X10_where, if_neg e4, e5]⟩, by rw [e1, e2]; exact hT⟩, trivial⟩
theorem st_rest {k1 : Int32} {X : XS} {M : MS} {o : Option TX11_q} (hR : Rel X M o) : ∃ rx X' rm M' o', gX_rest k1 X = some (rx, X') ∧ gM_rest k1 M o = some (rm, M', o') ∧ Rel X' M' o' ∧ True := by
  obtain ⟨hX, hM, ho, hp, hw, hT⟩ := hR
  obtain ⟨rx, X', ex, hX', e1, e0, e3, e4, en, eh, eK⟩ := sx_rest (k1 := k1) hX
  obtain ⟨rm, M', em, hM', e2, e5, ev, eg⟩ := sm_rest (k1 := k1) hM ho
  exact ⟨rx, X', rm, M', o, ex, em, ⟨hX', hM', ho, by rw [e0, en, eh, eK, ev, eg]; exact hp, ⟨by rw [e3, e2]; exact hw.1, by rw [f_X10_where, if_neg e4, e5]⟩, by rw [e1, e2]; exact hT⟩, trivial⟩
theorem st_landed {k1 : Int32} {k2 : Int32} {X : XS} {M : MS} {o : Option TX11_q} (hR : Rel X M o) : ∃ rx X' rm M' o', gX_landed k1 k2 X = some (rx, X') ∧ gM_landed k1 k2 M o = some (rm, M', o') ∧ Rel X' M' o' ∧ True := by
  obtain ⟨hX, hM, ho, hp, hw, hT⟩ := hR
  obtain ⟨rx, X', ex, hX', e1, e0, e3, e4, en, eh, eK⟩ := sx_landed (k1 := k1) (k2 := k2) hX
  obtain ⟨rm, M', em, hM', e2, e5, ev, eg⟩ := sm_landed (k1 := k1) (k2 := k2) hM ho
  exact ⟨rx, X', rm, M', o, ex, em, ⟨hX', hM', ho, by rw [e0, en, eh, eK, ev, eg]; exact hp, ⟨by rw [e3, e2]; exact hw.1, by rw [f_X10_where, if_neg e4, e5]⟩, by rw [e1, e2]; exact hT⟩, trivial⟩
theorem st_landedIn {k1 : Int32} {k2 : Int32} {k3 : Int32} {X : XS} {M : MS} {o : Option TX11_q} (hR : Rel X M o) : ∃ rx X' rm M' o', gX_landedIn k1 k2 k3 X = some (rx, X') ∧ gM_landedIn k1 k2 k3 M o = some (rm, M', o') ∧ Rel X' M' o' ∧ True := by
  obtain ⟨hX, hM, ho, hp, hw, hT⟩ := hR
  obtain ⟨rx, X', ex, hX', e1, e0, e3, e4, en, eh, eK⟩ := sx_landedIn (k1 := k1) (k2 := k2) (k3 := k3) hX
  obtain ⟨rm, M', em, hM', e2, e5, ev, eg⟩ := sm_landedIn (k1 := k1) (k2 := k2) (k3 := k3) hM ho
  exact ⟨rx, X', rm, M', o, ex, em, ⟨hX', hM', ho, by rw [e0, en, eh, eK, ev, eg]; exact hp, ⟨by rw [e3, e2]; exact hw.1, by rw [f_X10_where, if_neg e4, e5]⟩, by rw [e1, e2]; exact hT⟩, trivial⟩
theorem st_crabs {k1 : Int32} {k2 : Int32} {X : XS} {M : MS} {o : Option TX11_q} (hR : Rel X M o) : ∃ rx X' rm M' o', gX_crabs k1 k2 X = some (rx, X') ∧ gM_crabs k1 k2 M o = some (rm, M', o') ∧ Rel X' M' o' ∧ True := by
  obtain ⟨hX, hM, ho, hp, hw, hT⟩ := hR
  obtain ⟨rx, X', ex, hX', e1, e0, e3, e4, en, eh, eK⟩ := sx_crabs (k1 := k1) (k2 := k2) hX
  obtain ⟨rm, M', em, hM', e2, e5, ev, eg⟩ := sm_crabs (k1 := k1) (k2 := k2) hM ho
  exact ⟨rx, X', rm, M', o, ex, em, ⟨hX', hM', ho, by rw [e0, en, eh, eK, ev, eg]; exact hp, ⟨by rw [e3, e2]; exact hw.1, by rw [f_X10_where, if_neg e4, e5]⟩, by rw [e1, e2]; exact hT⟩, trivial⟩
theorem st_let {k1 : Int32} {k2 : Int32} {k3 : Int32} {k4 : Int32} {X : XS} {M : MS} {o : Option TX11_q} (hR : Rel X M o) : ∃ rx X' rm M' o', gX_let k1 k2 k3 k4 X = some (rx, X') ∧ gM_let k1 k2 k3 k4 M o = some (rm, M', o') ∧ Rel X' M' o' ∧ rx = rm := by
  obtain ⟨hX, hM, ho, hp, hw, hT⟩ := hR
  obtain ⟨rx, X', ex, hX', e1, e0, e3, e4⟩ := sx_let (k1 := k1) (k2 := k2) (k3 := k3) (k4 := k4) hX
  obtain ⟨rm, M', em, hM', e2, e5⟩ := sm_let (k1 := k1) (k2 := k2) (k3 := k3) (k4 := k4) hM ho
  have key : PO X'.2.1 X'.2.2.2.2.1 X'.2.2.2.2.2.1 X'.2.2.2.2.2.2.1 M'.2.2.1 M'.2.2.2.2.1 o ∧ rx = rm := by
    cases o with
    | none =>
      obtain ⟨x0, K0, h1⟩ : ∃ x0 K0, gX_let k1 k2 k3 k4 X = some (0, (x0, X.2.1, X.2.2.1, X.2.2.2.1, X.2.2.2.2.1, X.2.2.2.2.2.1, K0, X.2.2.2.2.2.2.2.1, X.2.2.2.2.2.2.2.2.1, X.2.2.2.2.2.2.2.2.2.1, X.2.2.2.2.2.2.2.2.2.2)) := ⟨_, _, by
        show Option.map _ (f_X10_let k1 k2 k3 k4 X.1 (X.2.2.2.2.2.2.1 (kpI X.2.2.2.2.2.1)) X.2.1 X.2.2.2.2.1 X.2.2.2.2.2.1) = _
        rw [zn_let hp.1 k1 k2 k3 k4 X.1 _ _ _]
        rfl⟩
      obtain ⟨t0, h2⟩ : ∃ t0, gM_let k1 k2 k3 k4 M none = some (0, (t0, M.2), none) := ⟨_, rfl⟩
      obtain ⟨r1, x1⟩ := Prod.mk.inj (Option.some.inj (ex.symm.trans h1))
      obtain ⟨r2, x2⟩ := Prod.mk.inj (Option.some.inj (em.symm.trans h2))
      obtain ⟨x2, -⟩ := Prod.mk.inj x2
      rw [x1, x2]
      exact ⟨hp, r1.trans r2.symm⟩
    | some q =>
      obtain ⟨sp, de, ba, as, an, bi, cf, ct, t, hq, ht, hn, hh⟩ := hp
      obtain ⟨r, tr, kn, n', h', v', g', g1, g2, hn', hh'⟩ := ac_let hq hn ht hh k1 k2 k3 k4 X.1 M.1
      have h1 : gX_let k1 k2 k3 k4 X = some (r, ((tr, X.1.2), X.2.1, X.2.2.1, X.2.2.2.1, n', h', updN X.2.2.2.2.2.2.1 (kpI X.2.2.2.2.2.1) kn, X.2.2.2.2.2.2.2.1, X.2.2.2.2.2.2.2.2.1, X.2.2.2.2.2.2.2.2.2.1, X.2.2.2.2.2.2.2.2.2.2)) := by
        show Option.map _ (f_X10_let k1 k2 k3 k4 X.1 (X.2.2.2.2.2.2.1 (kpI X.2.2.2.2.2.1)) X.2.1 X.2.2.2.2.1 X.2.2.2.2.2.1) = _
        rw [g1]
        rfl
      have h2 : gM_let k1 k2 k3 k4 M (some q) = some (r, ((0, tr, -1), M.2.1, v', M.2.2.2.1, g', M.2.2.2.2.2.1, M.2.2.2.2.2.2.1, M.2.2.2.2.2.2.2), some q) := by
        show Option.map _ (f_X12_let k1 k2 k3 k4 M.1 M.2.2.1 M.2.2.2.2.1 q) = _
        rw [g2]
        rfl
      obtain ⟨r1, x1⟩ := Prod.mk.inj (Option.some.inj (ex.symm.trans h1))
      obtain ⟨r2, x2⟩ := Prod.mk.inj (Option.some.inj (em.symm.trans h2))
      obtain ⟨x2, -⟩ := Prod.mk.inj x2
      rw [x1, x2]
      exact ⟨⟨sp, de, ba, as, an, bi, cf, ct, t, hq, ht, hn', hh'⟩, r1.trans r2.symm⟩
  exact ⟨rx, X', rm, M', o, ex, em, ⟨hX', hM', ho, key.1, ⟨by rw [e3, e2]; exact hw.1, by rw [f_X10_where, if_neg e4, e5]⟩, by rw [e1, e2]; exact hT⟩, key.2⟩
theorem st_drawIn {k1 : Int32} {X : XS} {M : MS} {o : Option TX11_q} (hR : Rel X M o) : ∃ rx X' rm M' o', gX_drawIn k1 X = some (rx, X') ∧ gM_drawIn k1 M o = some (rm, M', o') ∧ Rel X' M' o' ∧ rx = rm := by
  obtain ⟨hX, hM, ho, hp, hw, hT⟩ := hR
  obtain ⟨rx, X', ex, hX', e1, e0, e3, e4⟩ := sx_drawIn (k1 := k1) hX
  obtain ⟨rm, M', em, hM', e2, e5⟩ := sm_drawIn (k1 := k1) hM ho
  have key : PO X'.2.1 X'.2.2.2.2.1 X'.2.2.2.2.2.1 X'.2.2.2.2.2.2.1 M'.2.2.1 M'.2.2.2.2.1 o ∧ rx = rm := by
    cases o with
    | none =>
      obtain ⟨x0, K0, h1⟩ : ∃ x0 K0, gX_drawIn k1 X = some (0, (x0, X.2.1, X.2.2.1, X.2.2.2.1, X.2.2.2.2.1, X.2.2.2.2.2.1, K0, X.2.2.2.2.2.2.2.1, X.2.2.2.2.2.2.2.2.1, X.2.2.2.2.2.2.2.2.2.1, X.2.2.2.2.2.2.2.2.2.2)) := ⟨_, _, by
        show Option.map _ (f_X10_drawIn k1 X.1 (X.2.2.2.2.2.2.1 (kpI X.2.2.2.2.2.1)) X.2.1 X.2.2.2.2.1 X.2.2.2.2.2.1) = _
        rw [zn_drawIn hp.1 k1 X.1 _ _ _]
        rfl⟩
      obtain ⟨t0, h2⟩ : ∃ t0, gM_drawIn k1 M none = some (0, (t0, M.2), none) := ⟨_, rfl⟩
      obtain ⟨r1, x1⟩ := Prod.mk.inj (Option.some.inj (ex.symm.trans h1))
      obtain ⟨r2, x2⟩ := Prod.mk.inj (Option.some.inj (em.symm.trans h2))
      obtain ⟨x2, -⟩ := Prod.mk.inj x2
      rw [x1, x2]
      exact ⟨hp, r1.trans r2.symm⟩
    | some q =>
      obtain ⟨sp, de, ba, as, an, bi, cf, ct, t, hq, ht, hn, hh⟩ := hp
      obtain ⟨r, tr, kn, n', h', v', g', g1, g2, hn', hh'⟩ := ac_drawIn hq hn ht hh k1 X.1 M.1
      have h1 : gX_drawIn k1 X = some (r, ((tr, X.1.2), X.2.1, X.2.2.1, X.2.2.2.1, n', h', updN X.2.2.2.2.2.2.1 (kpI X.2.2.2.2.2.1) kn, X.2.2.2.2.2.2.2.1, X.2.2.2.2.2.2.2.2.1, X.2.2.2.2.2.2.2.2.2.1, X.2.2.2.2.2.2.2.2.2.2)) := by
        show Option.map _ (f_X10_drawIn k1 X.1 (X.2.2.2.2.2.2.1 (kpI X.2.2.2.2.2.1)) X.2.1 X.2.2.2.2.1 X.2.2.2.2.2.1) = _
        rw [g1]
        rfl
      have h2 : gM_drawIn k1 M (some q) = some (r, ((0, tr, -1), M.2.1, v', M.2.2.2.1, g', M.2.2.2.2.2.1, M.2.2.2.2.2.2.1, M.2.2.2.2.2.2.2), some q) := by
        show Option.map _ (f_X12_drawIn k1 M.1 M.2.2.1 M.2.2.2.2.1 q) = _
        rw [g2]
        rfl
      obtain ⟨r1, x1⟩ := Prod.mk.inj (Option.some.inj (ex.symm.trans h1))
      obtain ⟨r2, x2⟩ := Prod.mk.inj (Option.some.inj (em.symm.trans h2))
      obtain ⟨x2, -⟩ := Prod.mk.inj x2
      rw [x1, x2]
      exact ⟨⟨sp, de, ba, as, an, bi, cf, ct, t, hq, ht, hn', hh'⟩, r1.trans r2.symm⟩
  exact ⟨rx, X', rm, M', o, ex, em, ⟨hX', hM', ho, key.1, ⟨by rw [e3, e2]; exact hw.1, by rw [f_X10_where, if_neg e4, e5]⟩, by rw [e1, e2]; exact hT⟩, key.2⟩
theorem st_sell {k1 : Int32} {X : XS} {M : MS} {o : Option TX11_q} (hR : Rel X M o) : ∃ rx X' rm M' o', gX_sell k1 X = some (rx, X') ∧ gM_sell k1 M o = some (rm, M', o') ∧ Rel X' M' o' ∧ rx = rm := by
  obtain ⟨hX, hM, ho, hp, hw, hT⟩ := hR
  obtain ⟨rx, X', ex, hX', e1, e0, e3, e4⟩ := sx_sell (k1 := k1) hX
  obtain ⟨rm, M', em, hM', e2, e5⟩ := sm_sell (k1 := k1) hM ho
  have key : PO X'.2.1 X'.2.2.2.2.1 X'.2.2.2.2.2.1 X'.2.2.2.2.2.2.1 M'.2.2.1 M'.2.2.2.2.1 o ∧ rx = rm := by
    cases o with
    | none =>
      obtain ⟨x0, K0, h1⟩ : ∃ x0 K0, gX_sell k1 X = some (-1, (x0, X.2.1, X.2.2.1, X.2.2.2.1, X.2.2.2.2.1, X.2.2.2.2.2.1, K0, X.2.2.2.2.2.2.2.1, X.2.2.2.2.2.2.2.2.1, X.2.2.2.2.2.2.2.2.2.1, X.2.2.2.2.2.2.2.2.2.2)) := ⟨_, _, by
        show Option.map _ (f_X10_sell k1 X.1 (X.2.2.2.2.2.2.1 (kpI X.2.2.2.2.2.1)) X.2.1 X.2.2.2.2.1 X.2.2.2.2.2.1) = _
        rw [zn_sell hp.1 k1 X.1 _ _ _]
        rfl⟩
      obtain ⟨t0, h2⟩ : ∃ t0, gM_sell k1 M none = some (-1, (t0, M.2), none) := ⟨_, rfl⟩
      obtain ⟨r1, x1⟩ := Prod.mk.inj (Option.some.inj (ex.symm.trans h1))
      obtain ⟨r2, x2⟩ := Prod.mk.inj (Option.some.inj (em.symm.trans h2))
      obtain ⟨x2, -⟩ := Prod.mk.inj x2
      rw [x1, x2]
      exact ⟨hp, r1.trans r2.symm⟩
    | some q =>
      obtain ⟨sp, de, ba, as, an, bi, cf, ct, t, hq, ht, hn, hh⟩ := hp
      obtain ⟨r, tr, kn, n', h', v', g', g1, g2, hn', hh'⟩ := ac_sell hq hn ht hh k1 X.1 M.1
      have h1 : gX_sell k1 X = some (r, ((tr, X.1.2), X.2.1, X.2.2.1, X.2.2.2.1, n', h', updN X.2.2.2.2.2.2.1 (kpI X.2.2.2.2.2.1) kn, X.2.2.2.2.2.2.2.1, X.2.2.2.2.2.2.2.2.1, X.2.2.2.2.2.2.2.2.2.1, X.2.2.2.2.2.2.2.2.2.2)) := by
        show Option.map _ (f_X10_sell k1 X.1 (X.2.2.2.2.2.2.1 (kpI X.2.2.2.2.2.1)) X.2.1 X.2.2.2.2.1 X.2.2.2.2.2.1) = _
        rw [g1]
        rfl
      have h2 : gM_sell k1 M (some q) = some (r, ((0, tr, -1), M.2.1, v', M.2.2.2.1, g', M.2.2.2.2.2.1, M.2.2.2.2.2.2.1, M.2.2.2.2.2.2.2), some q) := by
        show Option.map _ (f_X12_sell k1 M.1 M.2.2.1 M.2.2.2.2.1 q) = _
        rw [g2]
        rfl
      obtain ⟨r1, x1⟩ := Prod.mk.inj (Option.some.inj (ex.symm.trans h1))
      obtain ⟨r2, x2⟩ := Prod.mk.inj (Option.some.inj (em.symm.trans h2))
      obtain ⟨x2, -⟩ := Prod.mk.inj x2
      rw [x1, x2]
      exact ⟨⟨sp, de, ba, as, an, bi, cf, ct, t, hq, ht, hn', hh'⟩, r1.trans r2.symm⟩
  exact ⟨rx, X', rm, M', o, ex, em, ⟨hX', hM', ho, key.1, ⟨by rw [e3, e2]; exact hw.1, by rw [f_X10_where, if_neg e4, e5]⟩, by rw [e1, e2]; exact hT⟩, key.2⟩
theorem st_day {X : XS} {M : MS} {o : Option TX11_q} (hR : Rel X M o) : ∃ rx X' rm M' o', gX_day X = some (rx, X') ∧ gM_day M o = some (rm, M', o') ∧ Rel X' M' o' ∧ rx = rm := by
  obtain ⟨hX, hM, ho, hp, hw, hT⟩ := hR
  obtain ⟨rx, X', ex, hX', e1, e0, e3, e4⟩ := sx_day  hX
  obtain ⟨rm, M', em, hM', e2, e5⟩ := sm_day  hM ho
  have key : PO X'.2.1 X'.2.2.2.2.1 X'.2.2.2.2.2.1 X'.2.2.2.2.2.2.1 M'.2.2.1 M'.2.2.2.2.1 o ∧ rx = rm := by
    cases o with
    | none =>
      obtain ⟨x0, K0, h1⟩ : ∃ x0 K0, gX_day X = some (-1, (x0, X.2.1, X.2.2.1, X.2.2.2.1, X.2.2.2.2.1, X.2.2.2.2.2.1, K0, X.2.2.2.2.2.2.2.1, X.2.2.2.2.2.2.2.2.1, X.2.2.2.2.2.2.2.2.2.1, X.2.2.2.2.2.2.2.2.2.2)) := ⟨_, _, by
        show Option.map _ (f_X10_day X.1 (X.2.2.2.2.2.2.1 (kpI X.2.2.2.2.2.1)) X.2.1 X.2.2.2.2.1 X.2.2.2.2.2.1 X.2.2.2.2.2.2.2.2.2.1) = _
        rw [zn_day hp.1 X.1 _ _ _ _]
        rfl⟩
      obtain ⟨t0, h2⟩ : ∃ t0, gM_day M none = some (-1, (t0, M.2), none) := ⟨_, rfl⟩
      obtain ⟨r1, x1⟩ := Prod.mk.inj (Option.some.inj (ex.symm.trans h1))
      obtain ⟨r2, x2⟩ := Prod.mk.inj (Option.some.inj (em.symm.trans h2))
      obtain ⟨x2, -⟩ := Prod.mk.inj x2
      rw [x1, x2]
      exact ⟨hp, r1.trans r2.symm⟩
    | some q =>
      obtain ⟨sp, de, ba, as, an, bi, cf, ct, t, hq, ht, hn, hh⟩ := hp
      obtain ⟨r, tr, kn, n', h', y', v', g', c', t', g1, g2, ht', hn', hh'⟩ := ac_day hq hn ht hh X.1 X.2.2.2.2.2.2.2.2.2.1 M.1 M.2.2.2.2.2.2.2
      have h1 : gX_day X = some (r, ((tr, X.1.2), X.2.1, X.2.2.1, X.2.2.2.1, n', h', updN X.2.2.2.2.2.2.1 (kpI X.2.2.2.2.2.1) kn, X.2.2.2.2.2.2.2.1, X.2.2.2.2.2.2.2.2.1, y', X.2.2.2.2.2.2.2.2.2.2)) := by
        show Option.map _ (f_X10_day X.1 (X.2.2.2.2.2.2.1 (kpI X.2.2.2.2.2.1)) X.2.1 X.2.2.2.2.1 X.2.2.2.2.2.1 X.2.2.2.2.2.2.2.2.2.1) = _
        rw [g1]
        rfl
      have h2 : gM_day M (some q) = some (r, ((0, tr, -1), M.2.1, v', M.2.2.2.1, g', M.2.2.2.2.2.1, M.2.2.2.2.2.2.1, c'), some q) := by
        show Option.map _ (f_X12_day M.1 M.2.2.1 M.2.2.2.2.1 M.2.2.2.2.2.2.2 q) = _
        rw [g2]
        rfl
      obtain ⟨r1, x1⟩ := Prod.mk.inj (Option.some.inj (ex.symm.trans h1))
      obtain ⟨r2, x2⟩ := Prod.mk.inj (Option.some.inj (em.symm.trans h2))
      obtain ⟨x2, -⟩ := Prod.mk.inj x2
      rw [x1, x2]
      exact ⟨⟨sp, de, ba, as, an, bi, cf, ct, t', hq, ht', hn', hh'⟩, r1.trans r2.symm⟩
  exact ⟨rx, X', rm, M', o, ex, em, ⟨hX', hM', ho, key.1, ⟨by rw [e3, e2]; exact hw.1, by rw [f_X10_where, if_neg e4, e5]⟩, by rw [e1, e2]; exact hT⟩, key.2⟩
theorem st_seed {k1 : Int32} {X : XS} {M : MS} {o : Option TX11_q} (hR : Rel X M o) : ∃ rx X' rm M' o', gX_seed k1 X = some (rx, X') ∧ gM_seed k1 M o = some (rm, M', o') ∧ Rel X' M' o' ∧ rx = rm := by
  obtain ⟨hX, hM, ho, hp, hw, hT⟩ := hR
  obtain ⟨rx, X', ex, hX', e1, e0, e3, e4⟩ := sx_seed (k1 := k1) hX
  obtain ⟨rm, M', em, hM', e2, e5⟩ := sm_seed (k1 := k1) hM ho
  have key : PO X'.2.1 X'.2.2.2.2.1 X'.2.2.2.2.2.1 X'.2.2.2.2.2.2.1 M'.2.2.1 M'.2.2.2.2.1 o ∧ rx = rm := by
    cases o with
    | none =>
      obtain ⟨x0, K0, h1⟩ : ∃ x0 K0, gX_seed k1 X = some (0, (x0, X.2.1, X.2.2.1, X.2.2.2.1, X.2.2.2.2.1, X.2.2.2.2.2.1, K0, X.2.2.2.2.2.2.2.1, X.2.2.2.2.2.2.2.2.1, X.2.2.2.2.2.2.2.2.2.1, X.2.2.2.2.2.2.2.2.2.2)) := ⟨_, _, by
        show Option.map _ (some (f_X10_seed k1 X.1 X.2.1 X.2.2.2.2.1)) = _
        rw [zn_seed hp.1 k1 X.1 _]
        rfl⟩
      obtain ⟨t0, h2⟩ : ∃ t0, gM_seed k1 M none = some (0, (t0, M.2), none) := ⟨_, rfl⟩
      obtain ⟨r1, x1⟩ := Prod.mk.inj (Option.some.inj (ex.symm.trans h1))
      obtain ⟨r2, x2⟩ := Prod.mk.inj (Option.some.inj (em.symm.trans h2))
      obtain ⟨x2, -⟩ := Prod.mk.inj x2
      rw [x1, x2]
      exact ⟨hp, r1.trans r2.symm⟩
    | some q =>
      obtain ⟨sp, de, ba, as, an, bi, cf, ct, t, hq, ht, hn, hh⟩ := hp
      obtain ⟨r, tr, n', v', g1, g2, hn'⟩ := ac_seed hq hn k1 X.1 M.1
      have h1 : gX_seed k1 X = some (r, ((tr, X.1.2), X.2.1, X.2.2.1, X.2.2.2.1, n', X.2.2.2.2.2.1, X.2.2.2.2.2.2.1, X.2.2.2.2.2.2.2.1, X.2.2.2.2.2.2.2.2.1, X.2.2.2.2.2.2.2.2.2.1, X.2.2.2.2.2.2.2.2.2.2)) := by
        show Option.map _ (some (f_X10_seed k1 X.1 X.2.1 X.2.2.2.2.1)) = _
        rw [g1]
        rfl
      have h2 : gM_seed k1 M (some q) = some (r, ((0, tr, -1), M.2.1, v', M.2.2.2.1, M.2.2.2.2.1, M.2.2.2.2.2.1, M.2.2.2.2.2.2.1, M.2.2.2.2.2.2.2), some q) := by
        rw [gM_seed, g2]
        rfl
      obtain ⟨r1, x1⟩ := Prod.mk.inj (Option.some.inj (ex.symm.trans h1))
      obtain ⟨r2, x2⟩ := Prod.mk.inj (Option.some.inj (em.symm.trans h2))
      obtain ⟨x2, -⟩ := Prod.mk.inj x2
      rw [x1, x2]
      exact ⟨⟨sp, de, ba, as, an, bi, cf, ct, t, hq, ht, hn', hh⟩, r1.trans r2.symm⟩
  exact ⟨rx, X', rm, M', o, ex, em, ⟨hX', hM', ho, key.1, ⟨by rw [e3, e2]; exact hw.1, by rw [f_X10_where, if_neg e4, e5]⟩, by rw [e1, e2]; exact hT⟩, key.2⟩
theorem st_undo {X : XS} {M : MS} {o : Option TX11_q} (hR : Rel X M o) : ∃ rx X' rm M' o', gX_undo X = some (rx, X') ∧ gM_undo M o = some (rm, M', o') ∧ Rel X' M' o' ∧ rx = rm := by
  obtain ⟨hX, hM, ho, hp, hw, hT⟩ := hR
  obtain ⟨rx, X', ex, hX', e1, e0, e3, e4⟩ := sx_undo  hX
  obtain ⟨rm, M', em, hM', e2, e5⟩ := sm_undo  hM ho
  have key : PO X'.2.1 X'.2.2.2.2.1 X'.2.2.2.2.2.1 X'.2.2.2.2.2.2.1 M'.2.2.1 M'.2.2.2.2.1 o ∧ rx = rm := by
    cases o with
    | none =>
      obtain ⟨x0, K0, h1⟩ : ∃ x0 K0, gX_undo X = some (0, (x0, X.2.1, X.2.2.1, X.2.2.2.1, X.2.2.2.2.1, X.2.2.2.2.2.1, K0, X.2.2.2.2.2.2.2.1, X.2.2.2.2.2.2.2.2.1, X.2.2.2.2.2.2.2.2.2.1, X.2.2.2.2.2.2.2.2.2.2)) := ⟨_, _, by
        show Option.map _ (f_X10_undo X.1 (X.2.2.2.2.2.2.1 (kuI X.2.2.2.2.2.1)) X.2.2.2.2.1 X.2.2.2.2.2.1) = _
        rw [zn_undo hp.2.2.2.2.1 X.1 _ _]
        rfl⟩
      obtain ⟨t0, h2⟩ : ∃ t0, gM_undo M none = some (0, (t0, M.2), none) := ⟨_, rfl⟩
      obtain ⟨r1, x1⟩ := Prod.mk.inj (Option.some.inj (ex.symm.trans h1))
      obtain ⟨r2, x2⟩ := Prod.mk.inj (Option.some.inj (em.symm.trans h2))
      obtain ⟨x2, -⟩ := Prod.mk.inj x2
      rw [x1, x2]
      exact ⟨hp, r1.trans r2.symm⟩
    | some q =>
      obtain ⟨sp, de, ba, as, an, bi, cf, ct, t, hq, ht, hn, hh⟩ := hp
      obtain ⟨r, tr, n', h', v', g', t', g1, g2, ht', hn', hh'⟩ := ac_undo hn ht hh X.1 M.1
      have h1 : gX_undo X = some (r, ((tr, X.1.2), X.2.1, X.2.2.1, X.2.2.2.1, n', h', X.2.2.2.2.2.2.1, X.2.2.2.2.2.2.2.1, X.2.2.2.2.2.2.2.2.1, X.2.2.2.2.2.2.2.2.2.1, X.2.2.2.2.2.2.2.2.2.2)) := by
        show Option.map _ (f_X10_undo X.1 (X.2.2.2.2.2.2.1 (kuI X.2.2.2.2.2.1)) X.2.2.2.2.1 X.2.2.2.2.2.1) = _
        rw [g1]
        rfl
      have h2 : gM_undo M (some q) = some (r, ((0, tr, -1), M.2.1, v', M.2.2.2.1, g', M.2.2.2.2.2.1, M.2.2.2.2.2.2.1, M.2.2.2.2.2.2.2), some q) := by
        show Option.map _ (f_X12_undo M.1 M.2.2.1 M.2.2.2.2.1) = _
        rw [g2]
        rfl
      obtain ⟨r1, x1⟩ := Prod.mk.inj (Option.some.inj (ex.symm.trans h1))
      obtain ⟨r2, x2⟩ := Prod.mk.inj (Option.some.inj (em.symm.trans h2))
      obtain ⟨x2, -⟩ := Prod.mk.inj x2
      rw [x1, x2]
      exact ⟨⟨sp, de, ba, as, an, bi, cf, ct, t', hq, ht', hn', hh'⟩, r1.trans r2.symm⟩
  exact ⟨rx, X', rm, M', o, ex, em, ⟨hX', hM', ho, key.1, ⟨by rw [e3, e2]; exact hw.1, by rw [f_X10_where, if_neg e4, e5]⟩, by rw [e1, e2]; exact hT⟩, key.2⟩
theorem st_mark {X : XS} {M : MS} {o : Option TX11_q} (hR : Rel X M o) : ∃ rx X' rm M' o', gX_mark X = some (rx, X') ∧ gM_mark M o = some (rm, M', o') ∧ Rel X' M' o' ∧ rx = rm := by
  obtain ⟨hX, hM, ho, hp, hw, hT⟩ := hR
  obtain ⟨rx, X', ex, hX', e1, e0, e3, e4⟩ := sx_mark  hX
  obtain ⟨rm, M', em, hM', e2, e5⟩ := sm_mark  hM ho
  have key : PO X'.2.1 X'.2.2.2.2.1 X'.2.2.2.2.2.1 X'.2.2.2.2.2.2.1 M'.2.2.1 M'.2.2.2.2.1 o ∧ rx = rm := by
    cases o with
    | none =>
      obtain ⟨x0, K0, h1⟩ : ∃ x0 K0, gX_mark X = some (-1, (x0, X.2.1, X.2.2.1, X.2.2.2.1, X.2.2.2.2.1, X.2.2.2.2.2.1, K0, X.2.2.2.2.2.2.2.1, X.2.2.2.2.2.2.2.2.1, X.2.2.2.2.2.2.2.2.2.1, X.2.2.2.2.2.2.2.2.2.2)) := ⟨_, _, by
        show Option.map _ (f_X10_mark X.1 (X.2.2.2.2.2.2.1 (16 + X.2.2.2.2.2.1.2.2.toNatClampNeg % 3)) X.2.1 X.2.2.2.2.1 X.2.2.2.2.2.1) = _
        rw [zn_mark hp.1 X.1 _ _ _]
        rfl⟩
      obtain ⟨t0, h2⟩ : ∃ t0, gM_mark M none = some (-1, (t0, M.2), none) := ⟨_, rfl⟩
      obtain ⟨r1, x1⟩ := Prod.mk.inj (Option.some.inj (ex.symm.trans h1))
      obtain ⟨r2, x2⟩ := Prod.mk.inj (Option.some.inj (em.symm.trans h2))
      obtain ⟨x2, -⟩ := Prod.mk.inj x2
      rw [x1, x2]
      exact ⟨hp, r1.trans r2.symm⟩
    | some q =>
      obtain ⟨sp, de, ba, as, an, bi, cf, ct, t, hq, ht, hn, hh⟩ := hp
      obtain ⟨r, tr, kn, h', g', g1, g2, hh'⟩ := ac_mark hq hn ht hh X.1 M.1
      have h1 : gX_mark X = some (r, ((tr, X.1.2), X.2.1, X.2.2.1, X.2.2.2.1, X.2.2.2.2.1, h', updN X.2.2.2.2.2.2.1 (16 + X.2.2.2.2.2.1.2.2.toNatClampNeg % 3) kn, X.2.2.2.2.2.2.2.1, X.2.2.2.2.2.2.2.2.1, X.2.2.2.2.2.2.2.2.2.1, X.2.2.2.2.2.2.2.2.2.2)) := by
        show Option.map _ (f_X10_mark X.1 (X.2.2.2.2.2.2.1 (16 + X.2.2.2.2.2.1.2.2.toNatClampNeg % 3)) X.2.1 X.2.2.2.2.1 X.2.2.2.2.2.1) = _
        rw [g1]
        rfl
      have h2 : gM_mark M (some q) = some (r, ((0, tr, -1), M.2.1, M.2.2.1, M.2.2.2.1, g', M.2.2.2.2.2.1, M.2.2.2.2.2.2.1, M.2.2.2.2.2.2.2), some q) := by
        show Option.map _ (f_X12_mark M.1 M.2.2.1 M.2.2.2.2.1) = _
        rw [g2]
        rfl
      obtain ⟨r1, x1⟩ := Prod.mk.inj (Option.some.inj (ex.symm.trans h1))
      obtain ⟨r2, x2⟩ := Prod.mk.inj (Option.some.inj (em.symm.trans h2))
      obtain ⟨x2, -⟩ := Prod.mk.inj x2
      rw [x1, x2]
      exact ⟨⟨sp, de, ba, as, an, bi, cf, ct, t, hq, ht, hn, hh'⟩, r1.trans r2.symm⟩
  exact ⟨rx, X', rm, M', o, ex, em, ⟨hX', hM', ho, key.1, ⟨by rw [e3, e2]; exact hw.1, by rw [f_X10_where, if_neg e4, e5]⟩, by rw [e1, e2]; exact hT⟩, key.2⟩
theorem st_back {k1 : Int32} {X : XS} {M : MS} {o : Option TX11_q} (hR : Rel X M o) : ∃ rx X' rm M' o', gX_back k1 X = some (rx, X') ∧ gM_back k1 M o = some (rm, M', o') ∧ Rel X' M' o' ∧ rx = rm := by
  obtain ⟨hX, hM, ho, hp, hw, hT⟩ := hR
  obtain ⟨rx, X', ex, hX', e1, e0, e3, e4⟩ := sx_back (k1 := k1) hX
  obtain ⟨rm, M', em, hM', e2, e5⟩ := sm_back (k1 := k1) hM ho
  have key : PO X'.2.1 X'.2.2.2.2.1 X'.2.2.2.2.2.1 X'.2.2.2.2.2.2.1 M'.2.2.1 M'.2.2.2.2.1 o ∧ rx = rm := by
    cases o with
    | none =>
      obtain ⟨x0, K0, h1⟩ : ∃ x0 K0, gX_back k1 X = some (0, (x0, X.2.1, X.2.2.1, X.2.2.2.1, X.2.2.2.2.1, X.2.2.2.2.2.1, K0, X.2.2.2.2.2.2.2.1, X.2.2.2.2.2.2.2.2.1, X.2.2.2.2.2.2.2.2.2.1, X.2.2.2.2.2.2.2.2.2.2)) := ⟨_, _, by
        show Option.map _ (f_X10_back k1 X.1 (X.2.2.2.2.2.2.1 (16 + (k1).toNatClampNeg % 3)) X.2.2.2.2.1 X.2.2.2.2.2.1) = _
        rw [zn_back hp.2.2.2.2.2 k1 X.1 _ _]
        rfl⟩
      obtain ⟨t0, h2⟩ : ∃ t0, gM_back k1 M none = some (0, (t0, M.2), none) := ⟨_, rfl⟩
      obtain ⟨r1, x1⟩ := Prod.mk.inj (Option.some.inj (ex.symm.trans h1))
      obtain ⟨r2, x2⟩ := Prod.mk.inj (Option.some.inj (em.symm.trans h2))
      obtain ⟨x2, -⟩ := Prod.mk.inj x2
      rw [x1, x2]
      exact ⟨hp, r1.trans r2.symm⟩
    | some q =>
      obtain ⟨sp, de, ba, as, an, bi, cf, ct, t, hq, ht, hn, hh⟩ := hp
      obtain ⟨r, tr, n', h', v', g', t', g1, g2, ht', hn', hh'⟩ := ac_back hn ht hh k1 X.1 M.1
      have h1 : gX_back k1 X = some (r, ((tr, X.1.2), X.2.1, X.2.2.1, X.2.2.2.1, n', h', X.2.2.2.2.2.2.1, X.2.2.2.2.2.2.2.1, X.2.2.2.2.2.2.2.2.1, X.2.2.2.2.2.2.2.2.2.1, X.2.2.2.2.2.2.2.2.2.2)) := by
        show Option.map _ (f_X10_back k1 X.1 (X.2.2.2.2.2.2.1 (16 + (k1).toNatClampNeg % 3)) X.2.2.2.2.1 X.2.2.2.2.2.1) = _
        rw [g1]
        rfl
      have h2 : gM_back k1 M (some q) = some (r, ((0, tr, -1), M.2.1, v', M.2.2.2.1, g', M.2.2.2.2.2.1, M.2.2.2.2.2.2.1, M.2.2.2.2.2.2.2), some q) := by
        show Option.map _ (f_X12_back k1 M.1 M.2.2.1 M.2.2.2.2.1) = _
        rw [g2]
        rfl
      obtain ⟨r1, x1⟩ := Prod.mk.inj (Option.some.inj (ex.symm.trans h1))
      obtain ⟨r2, x2⟩ := Prod.mk.inj (Option.some.inj (em.symm.trans h2))
      obtain ⟨x2, -⟩ := Prod.mk.inj x2
      rw [x1, x2]
      exact ⟨⟨sp, de, ba, as, an, bi, cf, ct, t', hq, ht', hn', hh'⟩, r1.trans r2.symm⟩
  exact ⟨rx, X', rm, M', o, ex, em, ⟨hX', hM', ho, key.1, ⟨by rw [e3, e2]; exact hw.1, by rw [f_X10_where, if_neg e4, e5]⟩, by rw [e1, e2]; exact hT⟩, key.2⟩
theorem st_size {k1 : Int32} {X : XS} {M : MS} {o : Option TX11_q} (hR : Rel X M o) : ∃ rx X' rm M' o', gX_size k1 X = some (rx, X') ∧ gM_size k1 M o = some (rm, M', o') ∧ Rel X' M' o' ∧ True := by
  obtain ⟨hX, hM, ho, hp, hw, hT⟩ := hR
  obtain ⟨rx, X', ex, hX', e1, e0, e3, en, eh, eK⟩ := sx_size (k1 := k1) hX
  obtain ⟨rm, M', em, hM', e2, e5, ev, eg⟩ := sm_size (k1 := k1) hM ho
  exact ⟨rx, X', rm, M', o, ex, em, ⟨hX', hM', ho, by rw [e0, en, eh, eK, ev, eg]; exact hp, ⟨by rw [e3, e2]; exact hw.1, by rw [e3, e1, e5]; exact hw.2⟩, by rw [e1, e2]; exact hT⟩, trivial⟩
theorem st_trouble {X : XS} {M : MS} {o : Option TX11_q} (hR : Rel X M o) : ∃ rx X' rm M' o', gX_trouble X = some (rx, X') ∧ gM_trouble M o = some (rm, M', o') ∧ Rel X' M' o' ∧ True := by
  obtain ⟨hX, hM, ho, hp, hw, hT⟩ := hR
  obtain ⟨rx, X', ex, hX', e1, e0, e3, en, eh, eK⟩ := sx_trouble  hX
  obtain ⟨rm, M', em, hM', e2, e5, ev, eg⟩ := sm_trouble  hM ho
  exact ⟨rx, X', rm, M', o, ex, em, ⟨hX', hM', ho, by rw [e0, en, eh, eK, ev, eg]; exact hp, ⟨by rw [e3, e2]; exact hw.1, by rw [e3, e1, e5]; exact hw.2⟩, by rw [e1, e2]; exact hT⟩, trivial⟩
theorem st_feed {k1 k2 k3 k4 k5 : Int32} {X : XS} {M : MS} {o : Option TX11_q} (hR : Rel X M o) : ∃ rx X' rm M' o', gX_feed k1 k2 k3 k4 k5 X = some (rx, X') ∧ gM_feed k1 k2 k3 k4 k5 M o = some (rm, M', o') ∧ Rel X' M' o' ∧ rx = rm := by
  obtain ⟨x, p, p2, r, R⟩ := X
  obtain ⟨t, s, R2⟩ := M
  obtain ⟨hX, hM, ho, hp, hw, T, f, tl, ts, hT, hf, er, es⟩ := hR
  dsimp only at er es
  subst er es
  obtain ⟨v, T', f', e1, e2, h3, h4⟩ := feed_both (k1 := k1) (k2 := k2) (k3 := k3) (k4 := k4) (k5 := k5) (t := t) (tl := tl) (ts := ts) hT hf
  have ex : gX_feed k1 k2 k3 k4 k5 (x, p, p2, (T, nI f, tl), R) = some (v, (x, p, p2, (T', nI f', tl), R)) := by
    rw [gX_feed]
    show Option.map _ (f_X10_feed k1 k2 k3 k4 k5 (T, nI f, tl)) = _
    rw [e1]
    rfl
  have em : gM_feed k1 k2 k3 k4 k5 (t, (T, nI f, ts), R2) o = some (v, ((0, t.2), (T', nI f', ts), R2), o) := by
    rw [gM_feed]
    show Option.map _ (f_X12_feed k1 k2 k3 k4 k5 t (T, nI f, ts)) = _
    rw [e2]
    rfl
  exact ⟨v, _, v, _, o, ex, em, ⟨hX, hM, ho, hp, ⟨hw.1, hw.2⟩, T', f', tl, ts, h4, h3, rfl, rfl⟩, rfl⟩
theorem st_pier {k1 : Int32} {X : XS} {M : MS} {o : Option TX11_q} (hR : Rel X M o) : ∃ rx X' rm M' o', gX_pier k1 X = some (rx, X') ∧ gM_pier k1 M o = some (rm, M', o') ∧ Rel X' M' o' ∧ rx = rm := by
  obtain ⟨hX, hM, ho, hp, hw, T, f, tl, ts, hT, hf, er, es⟩ := hR
  have ef : X.2.2.2.1.2.1 = nI f := by rw [er]
  by_cases hb : k1 < 0 ∨ X.2.2.2.1.2.1 < k1
  · obtain ⟨ex, em⟩ := pier_bad (o := o) (show X.2.2.2.1.2.1 = M.2.1.2.1 by rw [er, es]) hb
    exact ⟨_, _, _, _, o, ex, em, ⟨hX, hM, ho, hp, ⟨hw.1, if_neg (show ¬ (2 : Int32) = 4 by decide)⟩, T, f, tl, ts, hT, hf, er, es⟩, rfl⟩
  · obtain ⟨e, he, rfl⟩ := nI_of (fun z => hb (Or.inl z))
    have hef : e ≤ f := by
      have h2 : ¬ X.2.2.2.1.2.1 < nI e := fun z => hb (Or.inr z)
      rw [ef, nI_ltI (by omega) he] at h2
      omega
    rcases pier_read (o := o) hT hf hef er es with ⟨k, z, p2, tl', ts', -, -, hz, hk, ex, em⟩ | ⟨p', q', n1, nb, N, tl', ts', st, li, v', hP, hb', hk, hst, hli, hv', ex, em⟩
    · exact ⟨_, _, _, _, o, ex, em, ⟨hX, hM, ho, hp, ⟨hk.symm, (if_pos rfl).trans hz⟩, T, 0, tl', ts', hT, by omega, rfl, rfl⟩, rfl⟩
    · obtain ⟨⟨b1, b2, b3, b4, b5, b6⟩, bq⟩ := pr_bounds hP hb'
      refine ⟨_, _, _, _, some q', ex, em, ⟨⟨b1, b2, b3, b4, b5, b6, hX.2.2.2.2.2.2.1, r32_0 (by decide), r32_0 (by decide), hX.2.2.2.2.2.2.2.2.2⟩, ⟨r32_0 (by decide), r32_0 (by decide)⟩, bq, po_new hP hb' hX hst hli hv', ⟨hk.symm, if_neg (show ¬ (0 : Int32) = 4 by decide)⟩, T, 0, tl', ts', hT, by omega, rfl, rfl⟩, pr_an hP⟩
theorem st_led {k1 : Int32} {X : XS} {M : MS} {o : Option TX11_q} (hR : Rel X M o) : ∃ an, an ≤ 6 ∧ X.2.1.2.2.2.2.2.2.1 = nI an ∧ ∃ rm M', gM_led k1 M o = some (rm, M', o) ∧ Rel X M' o := by
  obtain ⟨hX, hM, ho, hp, hw, hT⟩ := hR
  obtain ⟨rm, M', em, hM', e2, e5, ev, eg⟩ := sm_led (k1 := k1) hM ho
  obtain ⟨b1, b2⟩ := hX.2.2.2.2.1
  obtain ⟨an, h1, h2⟩ := nI_of (x := X.2.1.2.2.2.2.2.2.1) (by rw [fa_lt, ltv_0]; omega)
  rw [h2, nI_toInt h1] at b2
  exact ⟨an, by omega, h2, rm, M', em, hX, hM', ho, by rw [ev, eg]; exact hp, ⟨by rw [e2]; exact hw.1, by rw [e5]; exact hw.2⟩, by rw [e2]; exact hT⟩
